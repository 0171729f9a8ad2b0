/-! ===== text: the reference reads sums ===== -/
def mX (q j : Nat) : Prop := (q = 132 ∧ (j = 14 ∨ j = 15 ∨ j = 16 ∨ j = 17 ∨ j = 27 ∨ j = 31 ∨ j = 32)) ∨ ((q = 148 ∨ q = 149) ∧ 800 ≤ j)
def fm (D' D : ev_D) : Prop := ∀ q j, ¬ mX q j → D' q j = D q j
theorem fm_rf (D : ev_D) : fm D D := fun _ _ _ => rfl
theorem fm_tr {D1 D2 D3 : ev_D} (h1 : fm D2 D1) (h2 : fm D3 D2) : fm D3 D1 := fun q j h => (h2 q j h).trans (h1 q j h)
theorem fm_up {D1 D : ev_D} {q i : Nat} {v : Int32} (h : fm D1 D) (hx : mX q i) : fm (ev_up D1 q i v) D := fun k j hk => by
  rw [upA, if_neg (fun z => hk (by rw [z.1, z.2]; exact hx))]
  exact h k j hk
theorem nmx {q j : Nat} (h : ¬ (q = 132 ∧ (j = 14 ∨ j = 15 ∨ j = 16 ∨ j = 17 ∨ j = 27 ∨ j = 31 ∨ j = 32))) (h2 : ¬ ((q = 148 ∨ q = 149) ∧ 800 ≤ j)) : ¬ mX q j := fun z => z.elim h h2
theorem fm_ex {D' D : ev_D} (h : ex [] [14, 15, 16, 17] D' D) : fm D' D := fun q j hk => h q j rfl (fun e => by
  cases z : mem [14, 15, 16, 17] j with
  | false => rfl
  | true =>
    have := mem_iff.mp z
    simp only [List.mem_cons, List.not_mem_nil, or_false] at this
    exact absurd (Or.inl ⟨e, by omega⟩) hk)
def md (D : ev_D) (G : List lw_C) : Prop := D 132 27 = nI G.length ∧ ∀ i (h : i < G.length), D 148 (800 + i) = lw_cO G[i] ∧ (G[i].1 ≤ 1 → D 149 (800 + i) = nI G[i].2)
theorem md_of {D D' : ev_D} {G : List lw_C} (h1 : D' 132 27 = D 132 27) (h2 : ∀ i, D' 148 i = D 148 i) (h3 : ∀ i, D' 149 i = D 149 i) (h : md D G) : md D' G := ⟨by rw [h1]; exact h.1, fun i hi => by rw [h2, h3]; exact h.2 i hi⟩
theorem md_ex {D D' : ev_D} {G : List lw_C} {sf : List Nat} (h : ex [] sf D' D) (hs : mem sf 27 = false) (g : md D G) : md D' G := md_of (ex_f h (by rw [hs]; rfl)) (fun i => ex_at h (by decide) i) (fun i => ex_at h (by decide) i) g
def tT (T : Nat → Nat) (n t : Nat) : Prop := t ≤ 400 ∧ Pq T n t = n ∧ ∀ j, j < t → Pq T n j < n
/-- how reading ends in the reference -/
def oM {α : Type} (T : Nat → Nat) (n t : Nat) (D0 : ev_D) (P : α → ev_D → Prop) (r : tR α) (res : ev_Op) : Prop := match r with
  | .inl (f, i) => ∃ D', res = some (mi1, D') ∧ D' 132 31 = nI f ∧ D' 132 32 = nI (Pq T n i) ∧ fm D' D0
  | .inr (j, a) => ∃ D', res = some (nI 0, D') ∧ j ≤ t ∧ RS T n j D' ∧ P a D' ∧ fm D' D0
section MNum
variable {kp fu n t i : Nat} {T : Nat → Nat} {D : ev_D}
theorem tT_lt (g : tT T n t) (hi : i ≤ t) (hK : Kq T n i ≠ 0) : i < t := by
  by_cases e : i = t
  · exact absurd (Kq_0.mpr (by rw [e, g.2.1]; omega)) hK
  · omega
theorem mT_fm {D' : ev_D} (h : fm D' D) (g : mT T n D) : mT T n D' := ⟨by rw [h 132 13 (nmx (by omega) (by omega))]; exact g.1, fun i hi => by rw [h 141 i (nmx (by omega) (by omega))]; exact g.2.1 i hi, fun i hi => by rw [h 142 i (nmx (by omega) (by omega))]; exact g.2.2 i hi⟩
theorem tv_of {D' : ev_D} {k v : Nat} (h6 : D' 132 16 = D 132 16) (h7 : D' 132 17 = D 132 17) (g : tv k v D) : tv k v D' := by
  unfold tv at g ⊢
  rw [h6, h7]
  exact g
theorem RS_of {D' : ev_D} (h : ∀ j, j = 14 ∨ j = 15 ∨ j = 16 ∨ j = 17 → D' 132 j = D 132 j) (g : RS T n i D) : RS T n i D' := ⟨by rw [h 15 (by omega)]; exact g.1, fun z => by rw [h 14 (by omega)]; exact g.2.1 z, tv_of (h 16 (by omega)) (h 17 (by omega)) g.2.2⟩
theorem m_err {f : Nat} (g : RS T n i D) : ∃ D', fX12_errs sh_L (sh_E kp) fu 132 (nI f) D = some (mi1, D') ∧ D' 132 31 = nI f ∧ D' 132 32 = nI (Pq T n i) ∧ fm D' D ∧ ∀ q j, ¬ (q = 132 ∧ (j = 31 ∨ j = 32)) → D' q j = D q j := by
  refine ⟨ev_up (ev_up D 132 31 (nI f)) 132 32 (nI (Pq T n i)), ?_, by simp (disch := omega) only [upA, neF, eqTn, true_and, false_and, and_false, and_true, and_self, reduceIte], by simp (disch := omega) only [upA, neF, eqTn, true_and, false_and, and_false, and_true, and_self, reduceIte], fm_up (fm_up (fm_rf _) (.inl ⟨rfl, by omega⟩)) (.inl ⟨rfl, by omega⟩), fun q j h => by rw [upA, if_neg (by omega), upA, if_neg (by omega)]⟩
  unfold fX12_errs
  rw [upJ _ _ _ _ (show (15 : Nat) ≠ 31 by decide), g.1]
  rfl
theorem m_em {G : List lw_C} (x : lw_C) {a : Int32} (ha : x.1 ≤ 1 → a = nI x.2) (h : md D G) (hG : G.length < 400) : ∃ D', fX12_emits sh_L (sh_E kp) fu 132 (lw_cO x) a D = some (nI 0, D') ∧ md D' (G ++ [x]) ∧ fm D' D ∧ (∀ j, j ≠ 27 → D' 132 j = D 132 j) ∧ ∀ q j, q ≠ 132 → q ≠ 148 → q ≠ 149 → D' q j = D q j := by
  refine ⟨ev_up (ev_up (ev_up D 148 (800 + G.length) (lw_cO x)) 149 (800 + G.length) a) 132 27 (nI (G.length + 1)), ?_, ⟨by rw [upS, List.length_append]; rfl, fun j hj => ?_⟩, fm_up (fm_up (fm_up (fm_rf _) (.inr ⟨.inl rfl, by omega⟩)) (.inr ⟨.inr rfl, by omega⟩)) (.inl ⟨rfl, by omega⟩), fun j hj => by rw [upJ _ _ _ _ hj, upN _ _ _ _ (by decide), upN _ _ _ _ (by decide)], fun q j h1 h2 h3 => by rw [upN _ _ _ _ h1, upN _ _ _ _ h3, upN _ _ _ _ h2]⟩
  · unfold fX12_emits fX12_emits_38
    rw [e_132_24, e_132_25, l_148, l_149, upN _ _ _ _ (show (132 : Nat) ≠ 149 by decide), upN _ _ _ _ (show (132 : Nat) ≠ 148 by decide), h.1, i_800, addK, gdI (by omega) (by omega), gdI (by omega) (by omega), nI_clamp (by omega), i_1, addK, i_0]
  · rw [upN _ _ _ _ (show (148 : Nat) ≠ 132 by decide), upN _ _ _ _ (show (148 : Nat) ≠ 149 by decide), upN _ _ _ _ (show (149 : Nat) ≠ 132 by decide)]
    rw [List.length_append] at hj
    by_cases e : j < G.length
    · rw [upJ _ _ _ _ (show 800 + j ≠ 800 + G.length by omega), upJ _ _ _ _ (show 800 + j ≠ 800 + G.length by omega), upN _ _ _ _ (show (149 : Nat) ≠ 148 by decide), List.getElem_append_left e]
      exact h.2 j e
    · have ej : j = G.length := by simp only [List.length_cons, List.length_nil] at hj; omega
      subst ej
      rw [upS, upS, List.getElem_append_right (Nat.le_refl _)]
      simpa using ha
theorem m_unit {G : List lw_C} (hfu : 30000 ≤ fu) (h255 : ∀ i, T i ≤ 255) (hn : n ≤ 400) (gt : tT T n t) (hM : mT T n D) (g : RS T n i D) (hi : i ≤ t) (h : md D G) (hG : G.length < 400 ∨ i = t) : (un (Kq T n) (Vq T n) i = none → ∃ D', fX12_readUnit sh_L (sh_E kp) fu 132 D = some (mi1, D') ∧ D' 132 31 = nI 1 ∧ D' 132 32 = nI (Pq T n i) ∧ fm D' D) ∧ ∀ u, un (Kq T n) (Vq T n) i = some u → ∃ D', fX12_readUnit sh_L (sh_E kp) fu 132 D = some (nI 0, D') ∧ i < t ∧ RS T n (i + 1) D' ∧ md D' (G ++ [u]) ∧ fm D' D := by
  have hk := Kq_b (n := n) h255 i
  have hfin : ∀ (u : lw_C) (x a : Int32), Kq T n i ≠ 0 → x = lw_cO u → (u.1 ≤ 1 → a = nI u.2) → ∃ D', fX12_readUnit_71 sh_L (sh_E kp) fu 132 132 x a D = some (nI 0, D') ∧ i < t ∧ RS T n (i + 1) D' ∧ md D' (G ++ [u]) ∧ fm D' D := by
    intro u x a h0 hx ha
    have hlt := tT_lt gt hi h0
    obtain ⟨D1, a1, a2, a3, a4, a5⟩ := m_em (kp := kp) (fu := fu) u ha h (by omega)
    obtain ⟨D2, b1, b2, b3, b4⟩ := m_next (kp := kp) hfu h255 hn (mT_fm a3 hM) (RS_of (fun j hj => a4 j (by omega)) g) h0
    refine ⟨D2, ?_, hlt, b2, md_ex b4 rfl a2, fm_tr a3 (fm_ex b4)⟩
    unfold fX12_readUnit_71
    rw [hx, a1, bdS, b1, bdS]
    rfl
  have herr : (∃ D', fX12_readUnit_23 sh_L (sh_E kp) fu 132 D = some (mi1, D') ∧ D' 132 31 = nI 1 ∧ D' 132 32 = nI (Pq T n i) ∧ fm D' D) ∨ Kq T n i = 2 := by
    by_cases k2 : Kq T n i = 2
    · exact .inr k2
    · left
      obtain ⟨D', a1, a2, a3, a4, _⟩ := m_err (kp := kp) (fu := fu) (f := 1) g
      refine ⟨D', ?_, a2, a3, a4⟩
      unfold fX12_readUnit_23 fX12_readUnit_24
      rw [i_0, if_pos rfl, i_3, if_neg (fun z => k2 ((m_t3 g.2.2).mp z)), i_1, a1, bdS]
  unfold un fX12_readUnit
  rw [i_2]
  by_cases k2 : Kq T n i = 2
  · rw [if_pos k2, if_neg (fun z => by have := (m_t2 g.2.2).mp z; omega)]
    refine ⟨fun z => (by cases z), fun u hu => ?_⟩
    have hu : (0, Vq T n i) = u := by injection hu
    obtain ⟨D', b⟩ := hfin u (nI 0) (nI (Vq T n i)) (by omega) (by rw [← hu]; rfl) (fun _ => by rw [← hu])
    refine ⟨D', ?_, b.2⟩
    unfold fX12_readUnit_23 fX12_readUnit_24 fX12_readUnit_43 fX12_readUnit_53
    rw [i_0, if_pos rfl, i_3, if_pos ((m_t3 g.2.2).mpr k2), if_pos rfl, if_pos rfl, (g.2.2.2.2.1 k2).2]
    exact b.1
  · rw [if_neg k2]
    by_cases k256 : 256 ≤ Kq T n i
    · rw [if_pos ((m_t2 g.2.2).mpr k256), (g.2.2.2.2.2.1 k256).2]
      unfold fX12_canAsk
      rw [i_7, i_17, m_in (by omega) (by omega) (by omega), bdS, gb, bdS, i_0, tg]
      by_cases k3 : 263 ≤ Kq T n i ∧ Kq T n i ≤ 273
      · rw [if_pos k3, if_pos (decide_eq_true (show 7 ≤ Kq T n i - 256 ∧ Kq T n i - 256 ≤ 17 by omega))]
        refine ⟨fun z => (by cases z), fun u hu => ?_⟩
        have hu : (1, Kq T n i - 263) = u := by injection hu
        obtain ⟨D', b⟩ := hfin u (nI 1) (nI (Kq T n i - 263)) (by omega) (by rw [← hu]; rfl) (fun _ => by rw [← hu])
        refine ⟨D', ?_, b.2⟩
        unfold fX12_readUnit_24 fX12_readUnit_43 fX12_readUnit_53
        rw [i_1, i_0, if_neg (show ¬ nI 1 = nI 0 by decide), if_neg (show ¬ nI 1 = nI 0 by decide), if_neg (show ¬ nI 1 = nI 0 by decide), (g.2.2.2.2.2.1 k256).2, i_7, pk_sub (by omega), show Kq T n i - 256 - 7 = Kq T n i - 263 by omega]
        exact b.1
      · rw [if_neg k3, if_neg (by rw [decide_eq_false (show ¬ (7 ≤ Kq T n i - 256 ∧ Kq T n i - 256 ≤ 17) by omega)]; decide)]
        exact ⟨fun _ => herr.resolve_right k2, fun u hu => (by cases hu)⟩
    · rw [if_neg (fun z => k256 ((m_t2 g.2.2).mp z)), if_neg (by omega)]
      exact ⟨fun _ => herr.resolve_right k2, fun u hu => (by cases hu)⟩
theorem dF {a b : Nat} (h : ¬ a = b) : ¬ (decide (a = b) = true) := by rw [decide_eq_false h]; decide
end MNum
section MSum
variable {kp fu n t : Nat} {T : Nat → Nat} {D0 : ev_D} {G : List lw_C}
theorem oM_tr {α : Type} {P : α → ev_D → Prop} {D1 D0 : ev_D} {r : tR α} {x : ev_Op} (hf : fm D1 D0) (h : oM T n t D1 P r x) : oM T n t D0 P r x := by
  cases r with
  | inl y =>
    obtain ⟨D', a1, a2, a3, a4⟩ := h
    exact ⟨D', a1, a2, a3, fm_tr hf a4⟩
  | inr y =>
    obtain ⟨D', a1, a2, a3, a4, a5⟩ := h
    exact ⟨D', a1, a2, a3, a4, fm_tr hf a5⟩
theorem m_prL (hfu : 30000 ≤ fu) (h255 : ∀ i, T i ≤ 255) (hn : n ≤ 400) (gt : tT T n t) : ∀ (d i : Nat) (acc : List lw_C) (nf : Nat) (D : ev_D), i ≤ t → t < i + d → t < i + nf → mT T n D → RS T n i D → md D (G ++ acc) → G.length + acc.length ≤ i → oM T n t D (fun l D' => md D' (G ++ l)) (prL (Kq T n) (Vq T n) d i acc) (fX12_readProduct_10 sh_L (sh_E kp) fu nf 132 D) := by
  have ht := gt.1
  intro d
  induction d with
  | zero =>
    intro i acc nf D hi h1
    omega
  | succ d ih =>
    intro i acc nf D hi h1 h2 hM g hd hG
    obtain ⟨nf, rfl⟩ : ∃ f', nf = f' + 1 := ⟨nf - 1, by omega⟩
    have hk := Kq_b (n := n) h255 i
    have hlen : (G ++ acc).length = G.length + acc.length := List.length_append
    have hgo : ∀ (b : Bool) (D1 : ev_D), i + 1 < t → mT T n D1 → RS T n (i + 1) D1 → md D1 (G ++ acc) → ∀ u, un (Kq T n) (Vq T n) (i + 1) = some u → oM T n t D1 (fun l D' => md D' (G ++ l)) (prL (Kq T n) (Vq T n) d (i + 2) (acc ++ [u, (2, if b = true then 3 else 4)])) (fX12_readProduct_74 sh_L (sh_E kp) fu (fX12_readProduct_10 sh_L (sh_E kp) fu nf) 132 (nI b.toNat) D1) := by
      intro b D1 hlt hM1 g1 hd1 u hu
      obtain ⟨_, u2⟩ := m_unit (kp := kp) hfu h255 hn gt hM1 g1 (by omega) hd1 (by omega)
      obtain ⟨D2, a1, a2, a3, a4, a5⟩ := u2 u hu
      obtain ⟨D3, b1, b2, b3, b4, b5⟩ := m_em (kp := kp) (fu := fu) (2, if b = true then 3 else 4) (a := nI 0) (fun z => absurd z (show ¬ 2 ≤ 1 by decide)) a4 (by rw [List.length_append, hlen]; simp only [List.length_cons, List.length_nil]; omega)
      have hI := ih (i + 2) (acc ++ [u, (2, if b = true then 3 else 4)]) nf D3 (by omega) (by omega) (by omega) (mT_fm b3 (mT_fm a5 hM1)) (RS_of (fun j hj => b4 j (by omega)) a3) (by
        have : G ++ (acc ++ [u, (2, if b = true then 3 else 4)]) = G ++ acc ++ [u] ++ [(2, if b = true then 3 else 4)] := by simp
        rw [this]; exact b2) (by rw [List.length_append]; simp only [List.length_cons, List.length_nil]; omega)
      have hI2 := oM_tr (fm_tr a5 b3) hI
      unfold fX12_readProduct_74 fX12_readProduct_94
      rw [a1, bdS, mm1, if_neg (m1N (by decide)), i_0]
      cases b with
      | true =>
        rw [if_neg (show ¬ nI (Bool.toNat true) = nI 0 by decide), i_4, show nI 4 = lw_cO (2, if true = true then 3 else 4) from rfl, b1, bdS]
        exact hI2
      | false =>
        rw [if_pos (show nI (Bool.toNat false) = nI 0 from rfl), i_5, show nI 5 = lw_cO (2, if false = true then 3 else 4) from rfl, b1, bdS]
        exact hI2
    rw [fX12_readProduct_10, i_42, m_isC g.2.2 hk (by decide) (by decide), bdS, i_0, tg, prL]
    by_cases k42 : Kq T n i = 42
    · have hlt := tT_lt gt hi (by omega)
      obtain ⟨D1, a1, a2, a3, a4⟩ := m_next (kp := kp) hfu h255 hn hM g (by omega)
      rw [if_pos k42, if_pos (decide_eq_true k42)]
      unfold fX12_readProduct_28 fX12_readProduct_57
      rw [i_42, m_isC g.2.2 hk (by decide) (by decide), bdS, a1, bdS, i_0, decide_eq_true k42, if_neg (show ¬ nI (Bool.toNat true) = nI 0 by decide), if_neg (show ¬ nI (Bool.toNat true) = nI 0 by decide)]
      refine oM_tr (fm_ex a4) ?_
      cases e1 : un (Kq T n) (Vq T n) (i + 1) with
      | none =>
        obtain ⟨u1, _⟩ := m_unit (kp := kp) hfu h255 hn gt a3 a2 (by omega) (md_ex a4 rfl hd) (by omega)
        obtain ⟨D', b1, b2, b3, b4⟩ := u1 e1
        show ∃ D', _
        unfold fX12_readProduct_74
        rw [b1, bdS, mm1, if_pos rfl]
        exact ⟨D', rfl, b2, b3, b4⟩
      | some u =>
        have h0 : Kq T n (i + 1) ≠ 0 := by
          intro z
          unfold un at e1
          rw [z, if_neg (by decide), if_neg (by decide)] at e1
          cases e1
        exact hgo true D1 (tT_lt gt (by omega) h0) a3 a2 (md_ex a4 rfl hd) u e1
    · rw [if_neg k42, if_neg (dF k42), i_47, m_isC g.2.2 hk (by decide) (by decide), bdS, tg]
      by_cases k47 : Kq T n i = 47
      · have hlt := tT_lt gt hi (by omega)
        obtain ⟨D1, a1, a2, a3, a4⟩ := m_next (kp := kp) hfu h255 hn hM g (by omega)
        rw [if_pos k47, if_pos (decide_eq_true k47)]
        unfold fX12_readProduct_28 fX12_readProduct_57
        rw [i_42, m_isC g.2.2 hk (by decide) (by decide), bdS, a1, bdS, i_0, decide_eq_false k42, if_pos (show nI (Bool.toNat false) = nI 0 from rfl), i_3]
        refine oM_tr (fm_ex a4) ?_
        by_cases k2 : Kq T n (i + 1) = 2
        · rw [if_pos k2, if_pos ((m_t3 a2.2.2).mpr k2), if_pos (show nI (Bool.toNat false) = nI 0 from rfl), (a2.2.2.2.2.1 k2).2]
          have hV := Vq_lt k2
          by_cases v0 : Vq T n (i + 1) = 0
          · rw [if_pos v0, v0, if_pos rfl]
            obtain ⟨D', b1, b2, b3, b4, _⟩ := m_err (kp := kp) (fu := fu) (f := 2) a2
            rw [i_2, b1, bdS]
            exact ⟨D', rfl, b2, b3, b4⟩
          · rw [if_neg v0, if_neg (fun z => v0 ((nI_eq (by omega) (by omega)).mp z))]
            exact hgo false D1 (tT_lt gt (by omega) (by omega)) a3 a2 (md_ex a4 rfl hd) (0, Vq T n (i + 1)) (by unfold un; rw [if_pos k2])
        · rw [if_neg k2, if_neg (fun z => k2 ((m_t3 a2.2.2).mp z))]
          obtain ⟨D', b1, b2, b3, b4, _⟩ := m_err (kp := kp) (fu := fu) (f := 1) a2
          rw [i_1, b1, bdS]
          exact ⟨D', rfl, b2, b3, b4⟩
      · rw [if_neg k47, if_neg (dF k47)]
        exact ⟨D, rfl, hi, g, hd, fm_rf _⟩
theorem m_prd (hfu : 30000 ≤ fu) (h255 : ∀ i, T i ≤ 255) (hn : n ≤ 400) (gt : tT T n t) {i : Nat} {D : ev_D} (hi : i ≤ t) (hM : mT T n D) (g : RS T n i D) (hd : md D G) (hG : G.length ≤ i) : oM T n t D (fun l D' => md D' (G ++ l)) (prd (Kq T n) (Vq T n) i) (fX12_readProduct sh_L (sh_E kp) fu 132 D) := by
  have ht := gt.1
  obtain ⟨u1, u2⟩ := m_unit (kp := kp) hfu h255 hn gt hM g hi hd (by omega)
  unfold prd fX12_readProduct
  cases e1 : un (Kq T n) (Vq T n) i with
  | none =>
    obtain ⟨D', b1, b2, b3, b4⟩ := u1 e1
    show ∃ D', _
    rw [b1, bdS, mm1, if_pos rfl]
    exact ⟨D', rfl, b2, b3, b4⟩
  | some u =>
    obtain ⟨D2, a1, a2, a3, a4, a5⟩ := u2 u e1
    rw [a1, bdS, mm1, if_neg (m1N (by decide))]
    exact oM_tr a5 (m_prL hfu h255 hn gt 402 (i + 1) [u] fu D2 (by omega) (by omega) (by omega) (mT_fm a5 hM) a3 a4 (by simp only [List.length_cons, List.length_nil]; omega))
theorem m_smL (hfu : 30000 ≤ fu) (h255 : ∀ i, T i ≤ 255) (hn : n ≤ 400) (gt : tT T n t) : ∀ (e i : Nat) (acc : List lw_C) (nf : Nat) (D : ev_D), i ≤ t → t < i + e → t < i + nf → mT T n D → RS T n i D → md D (G ++ acc) → G.length + acc.length ≤ i → oM T n t D (fun l D' => md D' (G ++ l)) (smL (Kq T n) (Vq T n) e i acc) (fX12_readSum_10 sh_L (sh_E kp) fu nf 132 D) := by
  have ht := gt.1
  intro e
  induction e with
  | zero =>
    intro i acc nf D hi h1
    omega
  | succ e ih =>
    intro i acc nf D hi h1 h2 hM g hd hG
    obtain ⟨nf, rfl⟩ : ∃ f', nf = f' + 1 := ⟨nf - 1, by omega⟩
    have hk := Kq_b (n := n) h255 i
    have hlen : (G ++ acc).length = G.length + acc.length := List.length_append
    have hgo : ∀ k, k ≤ 2 → 1 ≤ k → Kq T n i ≠ 0 → oM T n t D (fun l D' => md D' (G ++ l)) (match prd (Kq T n) (Vq T n) (i + 1) with
        | .inl x => .inl x
        | .inr (j, l) => smL (Kq T n) (Vq T n) e j (acc ++ l ++ [(2, k)])) (fX12_readSum_42 sh_L (sh_E kp) fu (fX12_readSum_10 sh_L (sh_E kp) fu nf) 132 (nI (1 + k)) D) := by
      intro k hk2 hk1 h0
      have hlt := tT_lt gt hi h0
      obtain ⟨D1, a1, a2, a3, a4⟩ := m_next (kp := kp) hfu h255 hn hM g h0
      have hp := m_prd (kp := kp) (G := G ++ acc) hfu h255 hn gt (i := i + 1) (by omega) a3 a2 (md_ex a4 rfl hd) (by omega)
      unfold fX12_readSum_42
      rw [a1, bdS]
      refine oM_tr (fm_ex a4) ?_
      cases e1 : prd (Kq T n) (Vq T n) (i + 1) with
      | inl x =>
        rw [e1] at hp
        obtain ⟨D', b1, b2, b3, b4⟩ := hp
        rw [b1, bdS, mm1, if_pos rfl]
        exact ⟨D', rfl, b2, b3, b4⟩
      | inr x =>
        obtain ⟨j, l⟩ := x
        have hb := prd_b e1
        rw [e1] at hp
        obtain ⟨D2, b1, b2, b3, b4, b5⟩ := hp
        obtain ⟨D3, c1, c2, c3, c4, c5⟩ := m_em (kp := kp) (fu := fu) (2, k) (a := nI 0) (fun z => absurd z (show ¬ 2 ≤ 1 by decide)) b4 (by rw [List.length_append, hlen]; omega)
        rw [b1, bdS, mm1, if_neg (m1N (by decide)), i_0, show nI (1 + k) = lw_cO (2, k) by
          have : k = 1 ∨ k = 2 := by omega
          rcases this with rfl | rfl <;> rfl, c1, bdS]
        refine oM_tr (fm_tr b5 c3) (ih j (acc ++ l ++ [(2, k)]) nf D3 b2 (by omega) (by omega) (mT_fm c3 (mT_fm b5 a3)) (RS_of (fun j hj => c4 j (by omega)) b3) ?_ ?_)
        · have : G ++ (acc ++ l ++ [(2, k)]) = G ++ acc ++ l ++ [(2, k)] := by simp
          rw [this]; exact c2
        · rw [List.length_append, List.length_append]
          simp only [List.length_cons, List.length_nil]
          omega
    rw [fX12_readSum_10, i_43, m_isC g.2.2 hk (by decide) (by decide), bdS, i_0, tg, smL]
    unfold fX12_readSum_28
    by_cases k43 : Kq T n i = 43
    · rw [if_pos (.inl k43), if_pos (decide_eq_true k43), (g.2.2.2.2.2.2 (by omega) (by omega)).2, i_43, if_pos (congrArg nI k43), if_pos k43, i_2]
      exact hgo 1 (by decide) (by decide) (by omega)
    · rw [if_neg (dF k43), i_45, m_isC g.2.2 hk (by decide) (by decide), bdS, tg]
      by_cases k45 : Kq T n i = 45
      · rw [if_pos (.inr k45), if_pos (decide_eq_true k45), (g.2.2.2.2.2.2 (by omega) (by omega)).2, i_43, if_neg (fun z => k43 ((nI_eq (by omega) (by omega)).mp z)), if_neg k43, i_3]
        exact hgo 2 (by decide) (by decide) (by omega)
      · rw [if_neg (fun z => z.elim k43 k45), if_neg (dF k45)]
        exact ⟨D, rfl, hi, g, hd, fm_rf _⟩
theorem m_sum (hfu : 30000 ≤ fu) (h255 : ∀ i, T i ≤ 255) (hn : n ≤ 400) (gt : tT T n t) {i : Nat} {D : ev_D} (hi : i ≤ t) (hM : mT T n D) (g : RS T n i D) (hd : md D G) (hG : G.length ≤ i) : oM T n t D (fun l D' => md D' (G ++ l)) (sm (Kq T n) (Vq T n) i) (fX12_readSum sh_L (sh_E kp) fu 132 D) := by
  have ht := gt.1
  have hp := m_prd (kp := kp) (G := G) hfu h255 hn gt hi hM g hd hG
  unfold sm fX12_readSum
  cases e1 : prd (Kq T n) (Vq T n) i with
  | inl x =>
    rw [e1] at hp
    obtain ⟨D', b1, b2, b3, b4⟩ := hp
    show oM _ _ _ _ _ (.inl x) _
    rw [b1, bdS, mm1, if_pos rfl]
    exact ⟨D', rfl, b2, b3, b4⟩
  | inr x =>
    obtain ⟨j, l⟩ := x
    have hb := prd_b e1
    rw [e1] at hp
    obtain ⟨D2, b1, b2, b3, b4, b5⟩ := hp
    rw [b1, bdS, mm1, if_neg (m1N (by decide))]
    exact oM_tr b5 (m_smL hfu h255 hn gt 402 j l fu D2 b2 (by omega) (by omega) (mT_fm b5 hM) b3 b4 (by omega))
theorem m_cmp (hfu : 30000 ≤ fu) (h255 : ∀ i, T i ≤ 255) (hn : n ≤ 400) (gt : tT T n t) {i : Nat} {D : ev_D} (hi : i ≤ t) (hM : mT T n D) (g : RS T n i D) (hd : md D G) (hG : G.length ≤ i) : oM T n t D (fun l D' => md D' (G ++ l)) (cm (Kq T n) (Vq T n) i) (fX12_readCompared sh_L (sh_E kp) fu 132 D) := by
  have ht := gt.1
  have hp := m_sum (kp := kp) (G := G) hfu h255 hn gt hi hM g hd hG
  unfold cm fX12_readCompared
  cases e1 : sm (Kq T n) (Vq T n) i with
  | inl x =>
    rw [e1] at hp
    obtain ⟨D', b1, b2, b3, b4⟩ := hp
    show oM _ _ _ _ _ (.inl x) _
    rw [b1, bdS, mm1, if_pos rfl]
    exact ⟨D', rfl, b2, b3, b4⟩
  | inr x =>
    obtain ⟨j, l⟩ := x
    have hb := sm_b e1
    rw [e1] at hp
    obtain ⟨D2, b1, b2, b3, b4, b5⟩ := hp
    have hk := Kq_b (n := n) h255 j
    have hM2 := mT_fm b5 hM
    have hgo : (60 ≤ Kq T n j ∧ Kq T n j ≤ 62) → oM T n t D2 (fun l D' => md D' (G ++ l)) (match sm (Kq T n) (Vq T n) (j + 1) with
        | .inl x => .inl x
        | .inr (j2, l2) => .inr (j2, l ++ l2 ++ [(2, 5 + (Kq T n j - 60))])) (fX12_readCompared_43 sh_L (sh_E kp) fu 132 D2) := by
      intro hc
      have hlt := tT_lt gt b2 (by omega)
      obtain ⟨D1, a1, a2, a3, a4⟩ := m_next (kp := kp) hfu h255 hn hM2 b3 (by omega)
      have hp := m_sum (kp := kp) (G := G ++ l) hfu h255 hn gt (i := j + 1) (by omega) a3 a2 (md_ex a4 rfl b4) (by rw [List.length_append]; omega)
      have h73 : ∀ k, 5 ≤ k → k ≤ 7 → k = 5 + (Kq T n j - 60) → oM T n t D2 (fun l D' => md D' (G ++ l)) (match sm (Kq T n) (Vq T n) (j + 1) with
        | .inl x => .inl x
        | .inr (j2, l2) => .inr (j2, l ++ l2 ++ [(2, 5 + (Kq T n j - 60))])) (fX12_readCompared_73 sh_L (sh_E kp) fu 132 (nI (1 + k)) D2) := by
        intro k k5 k7 ek
        unfold fX12_readCompared_73
        rw [a1, bdS, ← ek]
        refine oM_tr (fm_ex a4) ?_
        cases e2 : sm (Kq T n) (Vq T n) (j + 1) with
        | inl x =>
          rw [e2] at hp
          obtain ⟨D', c1, c2, c3, c4⟩ := hp
          show oM _ _ _ _ _ (.inl x) _
          rw [c1, bdS, mm1, if_pos rfl]
          exact ⟨D', rfl, c2, c3, c4⟩
        | inr x =>
          obtain ⟨j2, l2⟩ := x
          have hb2 := sm_b e2
          rw [e2] at hp
          obtain ⟨D3, c1, c2, c3, c4, c5⟩ := hp
          obtain ⟨D4, d1, d2, d3, d4, d5⟩ := m_em (kp := kp) (fu := fu) (2, k) (a := nI 0) (fun z => absurd z (show ¬ 2 ≤ 1 by decide)) c4 (by rw [List.length_append, List.length_append]; omega)
          rw [c1, bdS, mm1, if_neg (m1N (by decide)), i_0, show nI (1 + k) = lw_cO (2, k) by
            have : k = 5 ∨ k = 6 ∨ k = 7 := by omega
            rcases this with rfl | rfl | rfl <;> rfl, d1, bdS]
          refine ⟨D4, rfl, c2, RS_of (fun j hj => d4 j (by omega)) c3, ?_, fm_tr c5 d3⟩
          have : G ++ (l ++ l2 ++ [(2, k)]) = G ++ l ++ l2 ++ [(2, k)] := by simp
          show md D4 (G ++ (l ++ l2 ++ [(2, k)]))
          rw [this]; exact d2
      unfold fX12_readCompared_43
      rw [(b3.2.2.2.2.2.2 (by omega) (by omega)).2, i_60, i_61]
      by_cases k60 : Kq T n j = 60
      · rw [if_pos (congrArg nI k60), i_6]
        exact h73 5 (by decide) (by decide) (by omega)
      · rw [if_neg (fun z => k60 ((nI_eq (by omega) (by omega)).mp z))]
        by_cases k61 : Kq T n j = 61
        · rw [if_pos (congrArg nI k61), i_7]
          exact h73 6 (by decide) (by decide) (by omega)
        · rw [if_neg (fun z => k61 ((nI_eq (by omega) (by omega)).mp z)), i_8]
          exact h73 7 (by decide) (by decide) (by omega)
    rw [b1, bdS, mm1, if_neg (m1N (by decide)), i_60, m_isC b3.2.2 hk (by decide) (by decide), bdS, i_0, tg, i_61, m_isC b3.2.2 hk (by decide) (by decide), bdS, tg, i_62, m_isC b3.2.2 hk (by decide) (by decide), bdS, tg]
    refine oM_tr b5 ?_
    show oM _ _ _ _ _ (if 60 ≤ Kq T n j ∧ Kq T n j ≤ 62 then _ else _) _
    by_cases hc : 60 ≤ Kq T n j ∧ Kq T n j ≤ 62
    · rw [if_pos hc]
      have hgo' := hgo hc
      by_cases k60 : Kq T n j = 60
      · rw [if_pos (decide_eq_true k60)]; exact hgo'
      · rw [if_neg (dF k60)]
        by_cases k61 : Kq T n j = 61
        · rw [if_pos (decide_eq_true k61)]; exact hgo'
        · rw [if_neg (dF k61), if_pos (decide_eq_true (show Kq T n j = 62 by omega))]; exact hgo'
    · rw [if_neg hc, if_neg (dF (show ¬ Kq T n j = 60 by omega)), if_neg (dF (show ¬ Kq T n j = 61 by omega)), if_neg (dF (show ¬ Kq T n j = 62 by omega))]
      obtain ⟨D', c1, c2, c3, c4, _⟩ := m_err (kp := kp) (fu := fu) (f := 1) b3
      rw [i_1, c1, bdS]
      exact ⟨D', rfl, c2, c3, c4⟩
end MSum
