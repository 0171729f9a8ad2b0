/-! ===== text: the texts taken agree; the call ===== -/
theorem fC_sp {s : Nat} {ls : List lLn} {q : Nat} (hq : q < ls.length) : fC s ls = fC s (ls.take q) ++ (fl1 s ls[q] ++ fC s (ls.drop (q + 1))) := by
  have hs : ls.take q ++ ls[q] :: ls.drop (q + 1) = ls := by rw [← List.drop_eq_getElem_cons hq, List.take_append_drop]
  have := fC_app s (ls.take q) (ls[q] :: ls.drop (q + 1))
  rw [hs] at this
  exact this
theorem lB_le {s : Nat} {ls : List lLn} {q : Nat} : lB s ls q ≤ (fC s ls).length := by
  have := fC_app s (ls.take q) (ls.drop q)
  rw [List.take_append_drop] at this
  rw [this, List.length_append]
  unfold lB
  omega
theorem fC_get {s : Nat} {ls : List lLn} {q i : Nat} (hq : q < ls.length) (hi : i < (fl1 s ls[q]).length) : ∃ h : lB s ls q + i < (fC s ls).length, (fC s ls)[lB s ls q + i] = (fl1 s ls[q])[i] := by
  have hf := fC_sp (s := s) hq
  have hl : lB s ls q + i < (fC s ls).length := by
    rw [hf, List.length_append, List.length_append]
    unfold lB
    omega
  refine ⟨hl, ?_⟩
  have h2 : (fC s ls)[lB s ls q + i]? = (fl1 s ls[q])[i]? := by
    rw [hf]
    unfold lB
    rw [List.getElem?_append_right (by omega), Nat.add_sub_cancel_left, List.getElem?_append_left hi]
  rw [List.getElem?_eq_getElem hl, List.getElem?_eq_getElem hi] at h2
  injection h2
theorem vzA_get {l : List lw_C} (h : vzA l) {i : Nat} (hi : i < l.length) : lw_gd l[i] := h _ (List.getElem_mem hi)
theorem gL_of {c m : ev_D} {ls : List lLn} (hc : lwC ls c) (hm : lwM ls m) (h16 : ls.length ≤ 16) (hQ : ∀ a, a ∈ ls → a.1 ≤ 2 ∧ vzS 3 a.2.1 ∧ ∀ p, a.2.2 = some p → vzB 24 p) : g_L c m := by
  obtain ⟨c1, c2, c3, c4⟩ := hc
  obtain ⟨m1, m2, m3, m4⟩ := hm
  refine ⟨by rw [c1]; exact bI_n h16, by rw [m1, c1], fun q hq => ?_⟩
  rw [c1, nv_n (by omega)] at hq
  obtain ⟨a1, a2, a3, a4⟩ := c3 q hq
  obtain ⟨b1, b2, b3, b4⟩ := m3 q hq
  obtain ⟨w2, ⟨vA, f, s1, s2⟩, hB⟩ := hQ ls[q] (List.getElem_mem hq)
  have e0 := lB_s (s := 0) hq
  have e1 := lB_s (s := 1) hq
  have l0 : (fl1 0 ls[q]).length = ls[q].2.1.length + (oa 0 ls[q].2.2).length := List.length_append
  have l1 : (fl1 1 ls[q]).length = ls[q].2.1.length + (oa 1 ls[q].2.2).length := List.length_append
  have t0 := lB_le (s := 0) (ls := ls) (q := q + 1)
  have t1 := lB_le (s := 1) (ls := ls) (q := q + 1)
  refine ⟨by rw [b1, a1], by rw [a1]; exact bI_n w2, lB 0 ls q, lB 0 ls q + ls[q].2.1.length, lB 0 ls (q + 1), lB 1 ls q, lB 1 ls q + ls[q].2.1.length, lB 1 ls (q + 1), a2, a3, a4, b2, b3, b4, by omega, by omega, ?_, ?_, fun hne => ?_, by omega, by omega⟩
  · cases e : ls[q].2.2 with
    | none =>
      have z0 : (oa 0 ls[q].2.2).length = 0 := by rw [e]; rfl
      have z1 : (oa 1 ls[q].2.2).length = 0 := by rw [e]; rfl
      omega
    | some p =>
      obtain ⟨_, _, g, y1, y2, _⟩ := hB p e
      have z0 : (oa 0 ls[q].2.2).length ≠ 0 := by
        rw [e]
        intro z
        exact sg_ne y1 (List.length_eq_zero_iff.mp z)
      have z1 : (oa 1 ls[q].2.2).length ≠ 0 := by
        rw [e]
        intro z
        exact sg_ne y2 (List.length_eq_zero_iff.mp z)
      omega
  · refine ⟨ls[q].2.1, ls[q].2.1, f, rfl, rfl, sg_mo s1 (by decide), sg_mo s2 (by decide), fun z => z.elim, fun i hi => ⟨vzA_get vA hi, ?_⟩, fun i hi => ⟨vzA_get vA hi, ?_⟩⟩
    · obtain ⟨x1, x2⟩ := fC_get (s := 0) hq (i := i) (by omega)
      rw [c2 _ x1, x2]
      exact congrArg lw_cC (List.getElem_append_left hi)
    · obtain ⟨x1, x2⟩ := fC_get (s := 1) hq (i := i) (by omega)
      obtain ⟨y1, y2⟩ := m2 _ x1
      have x3 : (fl1 1 ls[q])[i]'(by omega) = ls[q].2.1[i] := List.getElem_append_left hi
      rw [x2, x3] at y1 y2
      exact ⟨y1, y2⟩
  · cases e : ls[q].2.2 with
    | none =>
      have z0 : (oa 0 ls[q].2.2).length = 0 := by rw [e]; rfl
      omega
    | some p =>
      obtain ⟨g1, g2, g, y1, y2, y3⟩ := hB p e
      have o0 : oa 0 ls[q].2.2 = p.1 := by rw [e]; rfl
      have o1 : oa 1 ls[q].2.2 = p.2 := by rw [e]; rfl
      rw [o0] at l0
      rw [o1] at l1
      refine ⟨p.1, p.2, g, by omega, by omega, sg_mo y1 (by decide), sg_mo y2 (by decide), fun _ => y3, fun i hi => ⟨vzA_get g1 hi, ?_⟩, fun i hi => ⟨vzA_get g2 hi, ?_⟩⟩
      · obtain ⟨x1, x2⟩ := fC_get (s := 0) hq (i := ls[q].2.1.length + i) (by omega)
        rw [Nat.add_assoc, c2 _ x1, x2]
        refine congrArg lw_cC ?_
        have x3 : (fl1 0 ls[q])[ls[q].2.1.length + i]? = p.1[i]? := by
          unfold fl1
          rw [List.getElem?_append_right (by omega), Nat.add_sub_cancel_left, o0]
        rw [List.getElem?_eq_getElem (by omega), List.getElem?_eq_getElem hi] at x3
        injection x3
      · obtain ⟨x1, x2⟩ := fC_get (s := 1) hq (i := ls[q].2.1.length + i) (by omega)
        obtain ⟨v1, v2⟩ := m2 _ x1
        have x3 : (fl1 1 ls[q])[ls[q].2.1.length + i]? = p.2[i]? := by
          unfold fl1
          rw [List.getElem?_append_right (by omega), Nat.add_sub_cancel_left, o1]
        rw [List.getElem?_eq_getElem (by omega), List.getElem?_eq_getElem hi] at x3
        injection x3 with x3
        rw [x2, x3] at v1 v2
        rw [Nat.add_assoc]
        exact ⟨v1, v2⟩
theorem felt_of {c : ev_D} {ls : List (Nat × Nat)} (h21 : c 21 0 = nI ls.length) (h16 : ls.length ≤ 16) (h : ∀ q (h : q < ls.length), c 22 (3 * q) = nI ls[q].1 ∧ c 22 (3 * q + 1) = nI ls[q].2) (hQ : ∀ a, a ∈ ls → a.1 < 10 ∧ a.2 < 10) (r : Nat) : felt c r = rfel ls r := by
  have hk : ∀ k, k ≤ ls.length → up (fun i s => if nv (c 22 (3 * i)) = r then s ||| 2 ^ nv (c 22 (3 * i + 1)) else s) 0 k 0 = (ls.take k).foldl (fun s a => if a.1 = r then s ||| 2 ^ a.2 else s) 0 := by
    intro k
    induction k with
    | zero => intro _; rfl
    | succ k ih =>
      intro hk
      have hq : k < ls.length := hk
      obtain ⟨a1, a2⟩ := h k hq
      have hg := hQ ls[k] (List.getElem_mem hq)
      rw [up_l, ih (by omega), Nat.zero_add, a1, a2, nv_n (by omega), nv_n (by omega), List.take_succ_eq_append_getElem hq, List.foldl_append]
      rfl
  unfold felt rfel
  rw [h21, nv_n (by omega), hk _ (Nat.le_refl _), List.take_length]
theorem nad_b {s : Nat} (h : nad s) (p : Nat) : (s.testBit p && s.testBit (p + 1)) = false := by
  by_cases hp : p < 8
  · have := List.all_eq_true.mp h.2 p (List.mem_range.mpr hp)
    cases e : (s.testBit p && s.testBit (p + 1)) with
    | false => rfl
    | true => rw [e] at this; cases this
  · have : s.testBit p = false := Nat.testBit_lt_two_pow (Nat.lt_of_lt_of_le h.1 (show 128 ≤ 2 ^ p from Nat.le_trans (show 128 ≤ 2 ^ 7 by decide) (Nat.pow_le_pow_right (show 2 > 0 by decide) (show 7 ≤ p by omega))))
    rw [this, Bool.false_and]
/-- from both ends to the call -/
theorem pl_tx {kp k : Nat} {a b : ev_D → ev_Op} {D : ev_D} (I : Inv kp D) (r fv pv : Int32) (Cc Cm : ev_D → Prop)
    (hc : ∃ c', a D = some (r, c') ∧ c' 91 1 = nI 0 ∧ c' 91 2 = fv ∧ c' 91 3 = pv ∧ Cc c' ∧ (∀ q j, ¬ tX k q j → c' q j = D q j) ∧ ∀ q j, 110 ≤ q → c' q j = D q j)
    (hm : ∀ m, refEq m D → ∃ m', b m = some (r, m') ∧ m' 132 13 = nI 0 ∧ m' 132 33 = fv ∧ m' 132 34 = pv ∧ Cm m' ∧ (∀ q j, q < 132 → m' q j = m q j) ∧ ∀ q j, ¬ tX k q j → m' q j = m q j)
    (hg : ∀ D1 D2, Cc D1 → Cm D2 → (∀ q j, q < 132 → D2 q j = D1 q j) → (∀ q j, ¬ tX k q j → D2 q j = D q j) → (k = 0 → g_L D2 D2) ∧ (k = 1 → g_R D2 D2) ∧ (k = 2 → g_D D2 D2 ∧ g_P D2) ∧ (k = 3 → g_C D2 D2)) : pl kp a b D := by
  obtain ⟨c', h1, h2, h3, h4, h5, h6, h7⟩ := hc
  obtain ⟨r2, D1, D2, k1, k2, k3, k4, k5, k6, k7, k8, k9, k10, k11⟩ := two (a := a) (b := b) (D := D) (Z := fun m c m' => c = c' ∧ r = r ∧ m' 132 13 = nI 0 ∧ m' 132 33 = fv ∧ m' 132 34 = pv ∧ Cm m' ∧ (∀ q j, q < 132 → m' q j = m q j) ∧ (∀ q j, ¬ tX k q j → m' q j = m q j) ∧ True) fun m hr => by
    obtain ⟨m', b1, b2⟩ := hm m hr
    exact ⟨r, c', m', h1, b1, fun q i g1 _ => h7 q i (by omega), rfl, rfl, b2.1, b2.2.1, b2.2.2.1, b2.2.2.2.1, b2.2.2.2.2.1, b2.2.2.2.2.2, trivial⟩
  subst k3
  have hf : ∀ q j, ¬ tX k q j → D2 q j = D q j := fun q j hq => by rw [k10 q j hq, h6 q j hq]
  refine ⟨r2, D1, D2, k1, k2, ?_⟩
  obtain ⟨g0, g1, g2, g3⟩ := hg D1 D2 h5 k8 k9 hf
  have gQ := I.2.2.2.2.1
  refine inv_tx I hf ⟨by rw [k9 _ _ (by decide), h2]; exact bI_n (by decide), by rw [k9 91 1 (by decide), h2, k5], fun i hi => ?_, by rw [k6, k9 _ _ (by decide), h3], by rw [k7, k9 _ _ (by decide), h4]⟩ g0 g1 g2 g3
  rw [hf 141 i (by unfold tX; omega), hf 106 i (by unfold tX; omega)]
  exact gQ.2.2.1 i hi
theorem p_text {kp fu : Nat} (hfu : 30000 ≤ fu) (a1 : Int32) (D : ev_D) (I : Inv kp D) : pl kp (fX11_text sh_L (sh_E kp) fu 1 a1) (fX12_text sh_L (sh_E kp) fu 132 a1) D := by
  have I0 := I
  obtain ⟨g0, gM, ⟨gT, gF, gB, gR, gD, gC, gS, gO, gE, gG, gU, gH, gN, gL⟩, gP, gQ, gZ, gK⟩ := I
  obtain ⟨⟨n, hn, en⟩, s1, s2, s3, s4⟩ := gQ
  obtain ⟨R, hR, eR⟩ := gT.1.1
  have h7 : D 132 7 = nI R := by rw [gF.1]; exact eR
  obtain ⟨T, h255, hT⟩ : ∃ T : Nat → Nat, (∀ i, T i ≤ 255) ∧ ∀ i, i < 400 → D 106 i = nI (T i) := by
    refine ⟨fun i => if i < 400 then nv (D 106 i) else 0, fun i => ?_, fun i hi => ?_⟩
    · show (if i < 400 then nv (D 106 i) else 0) ≤ 255
      by_cases hi : i < 400
      · rw [if_pos hi]; exact (bI_nv (by decide) (s2 i hi).2).2
      · rw [if_neg hi]; decide
    · show D 106 i = nI (if i < 400 then nv (D 106 i) else 0)
      rw [if_pos hi]; exact (bI_nv (by decide) (s2 i hi).2).1
  obtain ⟨t, gt⟩ := tT_ex h255 hT hn en
  have hM : ∀ m, refEq m D → mT T n m := fun m hr => ⟨by rw [re_c hr 132 rfl rfl, s1, en], fun i hi => by rw [re_c hr 141 rfl rfl, (s2 i hi).1, hT i hi], fun i hi => by rw [re_c hr 142 rfl rfl]; exact gZ.2.1 i hi⟩
  have hV : ∀ i, Kq T n i = 2 → Vq T n i < 10000 := fun i h => Vq_lt h
  have hno : ∀ D1 D2 : ev_D, (fun _ : ev_D => True) D1 → (fun _ : ev_D => True) D2 → (∀ q j, q < 132 → D2 q j = D1 q j) → (∀ q j, ¬ tX 4 q j → D2 q j = D q j) → (4 = 0 → g_L D2 D2) ∧ (4 = 1 → g_R D2 D2) ∧ (4 = 2 → g_D D2 D2 ∧ g_P D2) ∧ (4 = 3 → g_C D2 D2) := fun _ _ _ _ _ _ => ⟨fun z => absurd z (by decide), fun z => absurd z (by decide), fun z => absurd z (by decide), fun z => absurd z (by decide)⟩
  have herr : ∀ (k f i : Nat), teC kp fu T n k R D f i → (∀ m, refEq m D → ∃ m', fX12_text sh_L (sh_E kp) fu 132 (nI k) m = some (mi1, m') ∧ m' 132 13 = nI 0 ∧ m' 132 33 = nI f ∧ m' 132 34 = nI (Pq T n i) ∧ (∀ q j, q < 132 → m' q j = m q j) ∧ ∀ q j, ¬ tX 4 q j → m' q j = m q j) → pl kp (fX11_text sh_L (sh_E kp) fu 1 (nI k)) (fX12_text sh_L (sh_E kp) fu 132 (nI k)) D := by
    intro k f i hc hm
    obtain ⟨c', c1, c2, c3, c4, c5, c6⟩ := hc
    refine pl_tx (k := 4) I0 mi1 (nI f) (nI (Pq T n i)) (fun _ => True) (fun _ => True) ⟨c', c1, c2, c3, c4, trivial, c5, c6⟩ (fun m hr => ?_) hno
    obtain ⟨m', d1, d2, d3, d4, d5, d6⟩ := hm m hr
    exact ⟨m', d1, d2, d3, d4, trivial, d5, d6⟩
  rcases in_or a1 (a := 0) (b := 3) (by decide) (by decide) with hx | ⟨k, _, hk, rfl⟩
  · refine pl_tx (k := 4) I0 mi1 (nI 0) mi1 (fun _ => True) (fun _ => True) ?_ (fun m hr => ?_) hno
    · obtain ⟨D3, b1, b2, b3, b4, b5, b6⟩ := c_readN (kp := kp) (fu := fu) (R := R) hfu h255 hT hn en hx
      refine ⟨D3, ?_, b2, b3, b4, trivial, b5, b6⟩
      unfold fX11_text
      rw [e_1_0, e_1_2, e_2_0, eR, b1, bdS, mm1, if_pos rfl]
    · obtain ⟨m', d1, d2, d3, d4, d5, d6⟩ := m_readN (kp := kp) (fu := fu) (m := m) hx
      exact ⟨m', d1, d2, d3, d4, trivial, fun q j hq => d5 q j (by omega), d6⟩
  · have hk4 : k = 0 ∨ k = 1 ∨ k = 2 ∨ k = 3 := by omega
    rcases hk4 with rfl | rfl | rfl | rfl
    · have hC := law_C (kp := kp) (fu := fu) (R := R) hfu h255 hT hn en eR
      have hm := fun m (hr : refEq m D) => law_M (kp := kp) (fu := fu) hfu h255 hn gt (hM m hr)
      cases e : lns (Kq T n) (fun k => decide (256 ≤ k ∧ k ≤ 258)) (lnL (Kq T n) (Vq T n)) 17 0 [] with
      | inl x =>
        rw [e] at hC
        refine herr 0 x.1 x.2 hC fun m hr => ?_
        have := hm m hr
        rw [e] at this
        exact this
      | inr x =>
        obtain ⟨j, ls⟩ := x
        rw [e] at hC
        obtain ⟨h16, c', c1, c2, c3, c4, c5, c6, c7⟩ := hC
        have hQ := lns_g (Q := fun a => a.1 ≤ 2 ∧ vzS 3 a.2.1 ∧ ∀ p, a.2.2 = some p → vzB 24 p) (fun i j a hb h => lnL_g hV (of_decide_eq_true hb) h) 17 0 [] j ls (fun a ha => by cases ha) e
        refine pl_tx (k := 0) I0 (nI ls.length) (nI 0) mi1 (lwC ls) (lwM ls) ⟨c', c1, c2, c3, c4, c5, c6, c7⟩ (fun m hr => ?_) (fun D1 D2 q1 q2 q3 _ => ⟨fun _ => ?_, fun z => absurd z (by decide), fun z => absurd z (by decide), fun z => absurd z (by decide)⟩)
        · have := hm m hr
          rw [e] at this
          exact this h16
        · obtain ⟨y1, y2, y3, y4⟩ := q1
          refine gL_of ⟨by rw [q3 _ _ (by decide)]; exact y1, fun i hi => by rw [q3 _ _ (by decide)]; exact y2 i hi, fun q hq => by rw [q3 _ _ (by decide), q3 _ _ (by decide), q3 _ _ (by decide), q3 _ _ (by decide)]; exact y3 q hq, y4⟩ q2 h16 hQ
    · have hC := rope_C (kp := kp) (fu := fu) (R := R) hfu h255 hT hn en eR hR gZ.2.2.1 gM.2.1
      have hm := fun m (hr : refEq m D) => rope_M (kp := kp) (fu := fu) (R := R) hfu h255 hn gt hR (hM m hr) (by rw [re_c hr 132 rfl rfl]; exact h7)
      cases e : lns (Kq T n) (fun k => decide (k = 274)) (lnR (Kq T n) (Vq T n) R) 17 0 [] with
      | inl x =>
        rw [e] at hC
        refine herr 1 x.1 x.2 hC fun m hr => ?_
        have := hm m hr
        rw [e] at this
        exact this
      | inr x =>
        obtain ⟨j, ls⟩ := x
        rw [e] at hC
        obtain ⟨h16, c', c1, c2, c3, c4, c5, c5', c6, c7⟩ := hC
        have hQ := lns_g (Q := fun (a : Nat × Nat) => a.1 < 10 ∧ a.2 < 10) (fun i j a hb h => by have := lnR_g h; omega) 17 0 [] j ls (fun a ha => by cases ha) e
        refine pl_tx (k := 1) I0 (nI ls.length) (nI 0) mi1 (fun c => c 21 0 = nI ls.length ∧ ∀ q (h : q < ls.length), c 22 (3 * q) = nI ls[q].1 ∧ c 22 (3 * q + 1) = nI ls[q].2) (fun m' => m' 132 35 = nI ls.length ∧ ∀ r, r < 10 → m' 151 r = nI (rfel ls r)) ⟨c', c1, c2, c3, c4, ⟨c5, c5'⟩, c6, c7⟩ (fun m hr => ?_) (fun D1 D2 q1 q2 q3 _ => ⟨fun z => absurd z (by decide), fun _ => ?_, fun z => absurd z (by decide), fun z => absurd z (by decide)⟩)
        · have := hm m hr
          rw [e] at this
          obtain ⟨m', d1, d2, d3, d4, d5, d6, d7, d8⟩ := this h16
          exact ⟨m', d1, d2, d3, d4, ⟨d5, d6⟩, d7, d8⟩
        · have r21 : D2 21 0 = nI ls.length := by rw [q3 _ _ (by decide)]; exact q1.1
          have r22 : ∀ q (h : q < ls.length), D2 22 (3 * q) = nI ls[q].1 ∧ D2 22 (3 * q + 1) = nI ls[q].2 := fun q hq => by rw [q3 _ _ (by decide), q3 _ _ (by decide)]; exact q1.2 q hq
          refine ⟨by rw [r21]; exact bI_n h16, by rw [q2.1, r21], fun i hi => ?_, fun r hr => ?_⟩
          · rw [r21, nv_n (by omega)] at hi
            obtain ⟨y1, y2⟩ := r22 i hi
            have := hQ ls[i] (List.getElem_mem hi)
            rw [y1, y2]
            exact ⟨bI_n (by omega), bI_n (by omega)⟩
          · rw [q2.2 r hr, felt_of r21 h16 r22 hQ]
    · have hC := day_C (kp := kp) (fu := fu) (R := R) hfu h255 hT hn en eR gZ.2.2.2.1 gM.2.2.1
      have hm := fun m (hr : refEq m D) => day_M (kp := kp) (fu := fu) hfu h255 hn gt (hM m hr)
      cases e : lns (Kq T n) (fun k => decide (k = 276)) (lnD (Kq T n) (Vq T n)) 17 0 [] with
      | inl x =>
        rw [e] at hC
        refine herr 2 x.1 x.2 hC fun m hr => ?_
        have := hm m hr
        rw [e] at this
        exact this
      | inr x =>
        obtain ⟨j, ls⟩ := x
        rw [e] at hC
        obtain ⟨h16, c', c1, c2, c3, c4, c5, c5', c5'', c6, c7⟩ := hC
        have hQ := lns_g (Q := fun (a : Nat × Nat × Nat) => a.1 ≤ 23 ∧ a.2.1 ≤ 5 ∧ a.2.2 ≤ (if a.2.1 = 5 then 9 else 99)) (fun i j a hb h => lnD_g h) 17 0 [] j ls (fun a ha => by cases ha) e
        refine pl_tx (k := 2) I0 (nI ls.length) (nI 0) mi1 (fun c => c 23 0 = nI ls.length ∧ c 40 0 = nI 0 ∧ ∀ q (h : q < ls.length), c 24 (3 * q) = nI ls[q].1 ∧ c 24 (3 * q + 1) = nI ls[q].2.1 ∧ c 24 (3 * q + 2) = nI ls[q].2.2) (fun m' => m' 132 37 = nI ls.length ∧ m' 132 3 = nI 0 ∧ ∀ q (h : q < ls.length), m' 152 (3 * q) = nI ls[q].1 ∧ m' 152 (3 * q + 1) = nI ls[q].2.1 ∧ m' 152 (3 * q + 2) = nI ls[q].2.2) ⟨c', c1, c2, c3, c4, ⟨c5, c5', c5''⟩, c6, c7⟩ (fun m hr => ?_) (fun D1 D2 q1 q2 q3 q4 => ⟨fun z => absurd z (by decide), fun z => absurd z (by decide), fun _ => ⟨?_, ?_⟩, fun z => absurd z (by decide)⟩)
        · have := hm m hr
          rw [e] at this
          obtain ⟨m', d1, d2, d3, d4, d5, d6, d6', d7, d8⟩ := this h16
          exact ⟨m', d1, d2, d3, d4, ⟨d5, d6, d6'⟩, d7, d8⟩
        · have r23 : D2 23 0 = nI ls.length := by rw [q3 _ _ (by decide)]; exact q1.1
          refine ⟨by rw [r23]; exact bI_n h16, by rw [q2.1, r23], fun i hi => ?_⟩
          rw [r23, nv_n (by omega)] at hi
          obtain ⟨y1, y2, y3⟩ := q1.2.2 i hi
          obtain ⟨w1, w2, w3⟩ := q2.2.2 i hi
          obtain ⟨v1, v2, v3⟩ := hQ ls[i] (List.getElem_mem hi)
          rw [q3 24 _ (by decide), q3 24 _ (by decide), q3 24 _ (by decide), w1, w2, w3, y1, y2, y3]
          exact ⟨rfl, rfl, rfl, bI_n v1, ls[i].2.1, v2, rfl, bI_n v3⟩
        · have r40 : D2 40 0 = nI 0 := by rw [q3 _ _ (by decide)]; exact q1.2.1
          refine ⟨by rw [r40]; exact bI_n (by decide), by rw [q4 40 1 (by unfold tX; omega)]; exact gP.2.1, by rw [q2.2.1, r40], fun j hj => ?_⟩
          rw [r40, nv_n (by decide)] at hj
          omega
    · have hC := chg_C (kp := kp) (fu := fu) (R := R) hfu h255 hT hn en eR gZ.2.2.2.2.1 gM.2.2.2.1
      have hm := fun m (hr : refEq m D) => chg_M (kp := kp) (fu := fu) hfu h255 hn gt (hM m hr)
      cases e : lns (Kq T n) (fun k => decide (k = 282)) (lnC (Kq T n) (Vq T n)) 17 0 [] with
      | inl x =>
        rw [e] at hC
        refine herr 3 x.1 x.2 hC fun m hr => ?_
        have := hm m hr
        rw [e] at this
        exact this
      | inr x =>
        obtain ⟨j, ls⟩ := x
        rw [e] at hC
        obtain ⟨h16, c', c1, c2, c3, c4, c5, c5', c6, c7⟩ := hC
        have hQ := lns_g (Q := nad) (fun i j a hb h => chL_g 402 (i + 1) 0 j a ⟨by decide, by decide⟩ h) 17 0 [] j ls (fun a ha => by cases ha) e
        refine pl_tx (k := 3) I0 (nI ls.length) (nI 0) mi1 (fun c => c 25 0 = nI ls.length ∧ ∀ q (h : q < ls.length), c 26 (3 * q) = nI ls[q]) (fun m' => m' 132 39 = nI ls.length ∧ ∀ q (h : q < ls.length), m' 153 q = nI ls[q]) ⟨c', c1, c2, c3, c4, ⟨c5, c5'⟩, c6, c7⟩ (fun m hr => ?_) (fun D1 D2 q1 q2 q3 _ => ⟨fun z => absurd z (by decide), fun z => absurd z (by decide), fun z => absurd z (by decide), fun _ => ?_⟩)
        · have := hm m hr
          rw [e] at this
          obtain ⟨m', d1, d2, d3, d4, d5, d6, d7, d8⟩ := this h16
          exact ⟨m', d1, d2, d3, d4, ⟨d5, d6⟩, d7, d8⟩
        · have r25 : D2 25 0 = nI ls.length := by rw [q3 _ _ (by decide)]; exact q1.1
          refine ⟨by rw [r25]; exact bI_n h16, by rw [q2.1, r25], fun i hi => ?_⟩
          rw [r25, nv_n (by omega)] at hi
          have v := hQ ls[i] (List.getElem_mem hi)
          have v1 := v.1
          rw [q3 26 _ (by decide), q1.2 i hi, q2.2 i hi, nv_n (by omega)]
          exact ⟨rfl, bI_n (by omega), nad_b v⟩
theorem lc_text_ok : lc_tx := fun kp a1 D I => p_text (by decide) a1 D I
