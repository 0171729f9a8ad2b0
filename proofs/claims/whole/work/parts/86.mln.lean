/-! ===== text: the reference reads lines ===== -/
def lX (q j : Nat) : Prop := aX q j ∨ ((144 ≤ q ∧ q ≤ 147) ∧ 32 ≤ j) ∨ (q = 151 ∧ 10 ≤ j) ∨ (q = 152 ∧ 48 ≤ j) ∨ (q = 153 ∧ 16 ≤ j)
def fg (D' D : ev_D) : Prop := ∀ q j, ¬ lX q j → D' q j = D q j
theorem fg_rf (D : ev_D) : fg D D := fun _ _ _ => rfl
theorem fg_tr {D1 D2 D3 : ev_D} (h1 : fg D2 D1) (h2 : fg D3 D2) : fg D3 D1 := fun q j h => (h2 q j h).trans (h1 q j h)
theorem fg_fa {D1 D : ev_D} (h : fa D1 D) : fg D1 D := fun q j hk => h q j (fun z => hk (.inl z))
theorem fg_fm {D1 D : ev_D} (h : fm D1 D) : fg D1 D := fg_fa (fa_fm h)
theorem fg_up {D1 D : ev_D} {q i : Nat} {v : Int32} (h : fg D1 D) (hx : lX q i) : fg (ev_up D1 q i v) D := fun k j hk => by
  rw [upA, if_neg (fun z => hk (by rw [z.1, z.2]; exact hx))]
  exact h k j hk
/-- how lines end in the reference -/
def oL {α : Type} (T : Nat → Nat) (n : Nat) (D0 : ev_D) (P : α → ev_D → Prop) (ok : α → Int32) (r : tR α) (res : ev_Op) : Prop := match r with
  | .inl (f, i) => ∃ D', res = some (mi1, D') ∧ D' 132 31 = nI f ∧ D' 132 32 = nI (Pq T n i) ∧ fg D' D0
  | .inr (_, a) => ∃ D', res = some (ok a, D') ∧ P a D' ∧ fg D' D0
/-- how a line ends in the reference -/
def oN {α : Type} (T : Nat → Nat) (n t : Nat) (D0 : ev_D) (P : α → ev_D → Prop) (r : tR α) (res : ev_Op) : Prop := match r with
  | .inl (f, i) => ∃ D', res = some (mi1, D') ∧ D' 132 31 = nI f ∧ D' 132 32 = nI (Pq T n i) ∧ fg D' D0
  | .inr (j, a) => ∃ D', res = some (nI 0, D') ∧ j ≤ t ∧ RS T n j D' ∧ mT T n D' ∧ P a D' ∧ fg D' D0
def on1 {α : Type} (K : Nat → Nat) (one : Nat → tR α) (i : Nat) : tR α := match one i with
  | .inl x => .inl x
  | .inr (j, a) => if K j = 59 then .inr (j + 1, a) else .inl (1, j)
theorem lns_on {α : Type} (K : Nat → Nat) (bg : Nat → Bool) (one : Nat → tR α) (d i : Nat) (ls : List α) : lns K bg one (d + 1) i ls = if K i = 0 then .inr (i, ls) else if bg (K i) = false then .inl (1, i) else if ls.length = 16 then .inl (3, i) else (match on1 K one i with
    | .inl x => .inl x
    | .inr (j, a) => lns K bg one d j (ls ++ [a])) := by
  rw [lns]
  unfold on1
  cases one i with
  | inl x => rfl
  | inr x =>
    obtain ⟨j, a⟩ := x
    by_cases k : K j = 59
    · simp only [k, if_true]
    · simp only [k, if_false]
section MLn
variable {kp fu n t : Nat} {T : Nat → Nat}
theorem oN_tr {α : Type} {P : α → ev_D → Prop} {D1 D0 : ev_D} {r : tR α} {x : ev_Op} (hf : fg D1 D0) (h : oN T n t D1 P r x) : oN T n t D0 P r x := by
  cases r with
  | inl y =>
    obtain ⟨D', a1, a2, a3, a4⟩ := h
    exact ⟨D', a1, a2, a3, fg_tr hf a4⟩
  | inr y =>
    obtain ⟨D', a1, a2, a3, a4, a5, a6⟩ := h
    exact ⟨D', a1, a2, a3, a4, a5, fg_tr hf a6⟩
theorem oL_tr {α : Type} {P : α → ev_D → Prop} {ok : α → Int32} {D1 D0 : ev_D} {r : tR α} {x : ev_Op} (hf : fg D1 D0) (h : oL T n D1 P ok r x) : oL T n D0 P ok r x := by
  cases r with
  | inl y =>
    obtain ⟨D', a1, a2, a3, a4⟩ := h
    exact ⟨D', a1, a2, a3, fg_tr hf a4⟩
  | inr y =>
    obtain ⟨D', a1, a2, a3⟩ := h
    exact ⟨D', a1, a2, fg_tr hf a3⟩
theorem mT_fg {D' D : ev_D} (h : fg D' D) (g : mT T n D) : mT T n D' := by
  have nl : ∀ q j, q = 141 ∨ q = 142 ∨ (q = 132 ∧ j = 13) → ¬ lX q j := by
    intro q j hq z
    rcases z with z | z
    · rcases z with z | z
      · rcases z with z | z <;> omega
      · omega
    · omega
  exact ⟨by rw [h 132 13 (nl _ _ (by omega))]; exact g.1, fun i hi => by rw [h 141 i (nl _ _ (by omega))]; exact g.2.1 i hi, fun i hi => by rw [h 142 i (nl _ _ (by omega))]; exact g.2.2 i hi⟩
/-- all lines of one kind, each begun by a word -/
theorem m_lns {α : Type} (h255 : ∀ i, T i ≤ 255) (gt : tT T n t) {w : Nat} (hw : w < 27) {one : Nat → tR α} {line : Int32 → ev_D → ev_Op} {F : Nat → Int32 → ev_D → ev_Op} {P : List α → ev_D → Prop}
    (hF : ∀ nf l1 D, F (nf + 1) l1 D = ev_bd (fX12_isWord sh_L (sh_E kp) fu 132 (nI w) D) (fun v1 D1 => if v1 = nI 0 then if (D1 132 16) = nI 0 then some (l1, D1) else ev_bd (fX12_errs sh_L (sh_E kp) fu 132 (nI 1) D1) (fun v4 D4 => some (v4, D4)) else if l1 = nI 16 then ev_bd (fX12_errs sh_L (sh_E kp) fu 132 (nI 3) D1) (fun v8 D8 => some (v8, D8)) else ev_bd (line l1 D1) (fun v6 D6 => if v6 = mi1 then some (mi1, D6) else F nf (l1 + nI 1) D6)))
    (hone : ∀ (i : Nat) (ls : List α) (D : ev_D), ls.length < 16 → i ≤ t → Kq T n i = 256 + w → RS T n i D → mT T n D → P ls D → oN T n t D (fun a D' => P (ls ++ [a]) D') (on1 (Kq T n) one i) (line (nI ls.length) D)) : ∀ (d i : Nat) (ls : List α) (nf : Nat) (D : ev_D), i ≤ t → 16 < ls.length + d → 16 < ls.length + nf → ls.length ≤ 16 → RS T n i D → mT T n D → P ls D → oL T n D P (fun ls => nI ls.length) (lns (Kq T n) (fun k => decide (k = 256 + w)) one d i ls) (F nf (nI ls.length) D) := by
  intro d
  induction d with
  | zero => intro i ls nf D hi h1 h2 h3; omega
  | succ d ih =>
    intro i ls nf D hi h1 h2 h3 g hM hp
    obtain ⟨nf, rfl⟩ : ∃ f', nf = f' + 1 := ⟨nf - 1, by omega⟩
    have hK := Kq_b (n := n) h255 i
    rw [hF, m_isW g.2.2 hK hw, bdS, tg, lns_on]
    have herr : ∀ f, oL T n D P (fun ls => nI ls.length) (.inl (f, i)) (ev_bd (fX12_errs sh_L (sh_E kp) fu 132 (nI f) D) (fun v4 D4 => some (v4, D4))) := by
      intro f
      obtain ⟨D', a1, a2, a3, a4, _⟩ := m_err (kp := kp) (fu := fu) (f := f) g
      rw [a1, bdS]
      exact ⟨D', rfl, a2, a3, fg_fm a4⟩
    by_cases kw : Kq T n i = 256 + w
    · rw [if_neg (show ¬ Kq T n i = 0 by omega), if_neg (by rw [decide_eq_true kw]; decide), if_pos (decide_eq_true kw)]
      by_cases l16 : ls.length = 16
      · rw [if_pos l16, if_pos (congrArg nI l16)]
        exact herr 3
      · rw [if_neg l16, if_neg (fun z => l16 ((nI_eq (by omega) (by omega)).mp z))]
        have ho := hone i ls D (by omega) hi kw g hM hp
        cases e1 : on1 (Kq T n) one i with
        | inl x =>
          rw [e1] at ho
          obtain ⟨D', a1, a2, a3, a4⟩ := ho
          show oL _ _ _ _ _ (.inl x) _
          rw [a1, bdS, if_pos rfl]
          exact ⟨D', rfl, a2, a3, a4⟩
        | inr x =>
          obtain ⟨j, a⟩ := x
          rw [e1] at ho
          obtain ⟨D1, a1, a2, a3, a4, a5, a6⟩ := ho
          have hl : (ls ++ [a]).length = ls.length + 1 := by rw [List.length_append]; rfl
          have hI := ih j (ls ++ [a]) nf D1 a2 (by omega) (by omega) (by omega) a3 a4 a5
          rw [hl] at hI
          rw [a1, bdS, if_neg (m1N (by decide)), addK]
          exact oL_tr a6 hI
    · rw [if_neg (dF kw)]
      by_cases k0 : Kq T n i = 0
      · rw [if_pos k0, if_pos ((m_t0 g.2.2).mpr k0)]
        exact ⟨D, rfl, hp, fg_rf _⟩
      · rw [if_neg k0, if_pos (decide_eq_false kw), if_neg (fun z => k0 ((m_t0 g.2.2).mp z))]
        exact herr 1
/-- a number -/
theorem m_rn1 {i : Nat} {l1 l2 : Int32} {D : ev_D} (g : RS T n i D) (hk : Kq T n i ≠ 2) : ∃ D', fX12_readNumber sh_L (sh_E kp) fu 132 l1 l2 D = some (mi1, D') ∧ D' 132 31 = nI 1 ∧ D' 132 32 = nI (Pq T n i) ∧ fm D' D := by
  obtain ⟨D', a1, a2, a3, a4, _⟩ := m_err (kp := kp) (fu := fu) (f := 1) g
  refine ⟨D', ?_, a2, a3, a4⟩
  unfold fX12_readNumber
  rw [i_3, if_neg (fun z => hk ((m_t3 g.2.2).mp z)), i_1, a1, bdS]
theorem m_rn2 {i R : Nat} {l2 : Int32} {D : ev_D} (g : RS T n i D) (hk : Kq T n i = 2) (hl : ∀ v, v < 10000 → (l2 < nI v ↔ R ≤ v)) (hv : R ≤ Vq T n i) : ∃ D', fX12_readNumber sh_L (sh_E kp) fu 132 (nI 0) l2 D = some (mi1, D') ∧ D' 132 31 = nI 2 ∧ D' 132 32 = nI (Pq T n i) ∧ fm D' D := by
  obtain ⟨D', a1, a2, a3, a4, _⟩ := m_err (kp := kp) (fu := fu) (f := 2) g
  have hV := Vq_lt hk
  refine ⟨D', ?_, a2, a3, a4⟩
  unfold fX12_readNumber fX12_isIn
  rw [i_3, if_pos ((m_t3 g.2.2).mpr hk), (g.2.2.2.2.1 hk).2, if_neg (nI_nlt (Nat.zero_le _) (by omega)), if_pos ((hl _ hV).mpr hv), bdS, if_pos rfl, i_2, a1, bdS]
theorem m_rn0 (hfu : 30000 ≤ fu) (h255 : ∀ i, T i ≤ 255) (hn : n ≤ 400) {i R : Nat} {l2 : Int32} {D : ev_D} (hM : mT T n D) (g : RS T n i D) (hk : Kq T n i = 2) (hl : ∀ v, v < 10000 → (l2 < nI v ↔ R ≤ v)) (hv : ¬ R ≤ Vq T n i) : ∃ D', fX12_readNumber sh_L (sh_E kp) fu 132 (nI 0) l2 D = some (nI (Vq T n i), D') ∧ RS T n (i + 1) D' ∧ mT T n D' ∧ fm D' D := by
  have hV := Vq_lt hk
  obtain ⟨D', a1, a2, a3, a4⟩ := m_next (kp := kp) hfu h255 hn hM g (by omega)
  refine ⟨D', ?_, a2, a3, fm_ex a4⟩
  unfold fX12_readNumber fX12_isIn
  rw [i_3, if_pos ((m_t3 g.2.2).mpr hk), (g.2.2.2.2.1 hk).2, if_neg (nI_nlt (Nat.zero_le _) (by omega)), if_neg (fun z => hv ((hl _ hV).mp z)), bdS, if_neg (by decide), a1, bdS, (g.2.2.2.2.1 hk).2]
/-- the end of a line -/
theorem m_mark {α : Type} (hfu : 30000 ≤ fu) (h255 : ∀ i, T i ≤ 255) (hn : n ≤ 400) (gt : tT T n t) {P : α → ev_D → Prop} (hP : ∀ a D D', fm D' D → P a D → P a D') {j : Nat} {a : α} {D : ev_D} (hj : j ≤ t) (g : RS T n j D) (hM : mT T n D) (hp : P a D) : oN T n t D P (if Kq T n j = 59 then .inr (j + 1, a) else .inl (1, j)) (ev_bd (fX12_readMark sh_L (sh_E kp) fu 132 (nI 59) D) (fun v3 D3 => some (v3, D3))) := by
  have hK := Kq_b (n := n) h255 j
  unfold fX12_readMark
  rw [m_isC g.2.2 hK (by decide) (by decide), bdS, i_0, tg]
  by_cases k : Kq T n j = 59
  · have hlt := tT_lt gt hj (by omega)
    obtain ⟨D', a1, a2, a3, a4⟩ := m_next (kp := kp) hfu h255 hn hM g (by omega)
    rw [if_pos k, if_pos (decide_eq_true k), a1, bdS, bdS]
    exact ⟨D', rfl, by omega, a2, a3, hP a D D' (fm_ex a4) hp, fg_fm (fm_ex a4)⟩
  · obtain ⟨D', a1, a2, a3, a4, _⟩ := m_err (kp := kp) (fu := fu) (f := 1) g
    rw [if_neg k, if_neg (dF k), i_1, a1, bdS, bdS]
    exact ⟨D', rfl, a2, a3, fg_fm a4⟩
/-- ropes: who feels whom -/
def rfel (ls : List (Nat × Nat)) (r : Nat) : Nat := ls.foldl (fun s a => if a.1 = r then s ||| 2 ^ a.2 else s) 0
def roP (R : Nat) (ls : List (Nat × Nat)) (D : ev_D) : Prop := D 132 7 = nI R ∧ ∀ r, r < 10 → D 151 (10 + r) = nI (rfel ls r)
theorem roP_k {R : Nat} (ls : List (Nat × Nat)) (D D' : ev_D) (h : fm D' D) (g : roP R ls D) : roP R ls D' := ⟨by rw [h _ _ (nmx (by omega) (by omega))]; exact g.1, fun r hr => by rw [h _ _ (nmx (by omega) (by omega))]; exact g.2 r hr⟩
theorem on1_er {α : Type} {K : Nat → Nat} {one : Nat → tR α} {i : Nat} {x : Nat × Nat} (h : one i = .inl x) : on1 K one i = .inl x := by unfold on1; rw [h]
theorem on1_ok {α : Type} {K : Nat → Nat} {one : Nat → tR α} {i j : Nat} {a : α} (h : one i = .inr (j, a)) : on1 K one i = if K j = 59 then .inr (j + 1, a) else .inl (1, j) := by unfold on1; rw [h]
theorem m_rope (hfu : 30000 ≤ fu) (h255 : ∀ i, T i ≤ 255) (hn : n ≤ 400) (gt : tT T n t) {R : Nat} (hR : R ≤ 10) {i : Nat} {ls : List (Nat × Nat)} {D : ev_D} (hi : i ≤ t) (hk : Kq T n i = 274) (g : RS T n i D) (hM : mT T n D) (hp : roP R ls D) : oN T n t D (fun a D' => roP R (ls ++ [a]) D') (on1 (Kq T n) (lnR (Kq T n) (Vq T n) R) i) (fX12_readRope sh_L (sh_E kp) fu 132 D) := by
  have hlt := tT_lt gt hi (by omega)
  have hK := Kq_b (n := n) h255 i
  have hK2 := Kq_b (n := n) h255 (i + 2)
  obtain ⟨D1, a1, a2, a3, a4⟩ := m_next (kp := kp) hfu h255 hn hM g (by omega)
  unfold fX12_readRope fX12_readTold
  rw [i_18, m_isW g.2.2 hK (by decide), bdS, decide_eq_true (show Kq T n i = 256 + 18 from hk), i_0, if_neg (show ¬ nI (Bool.toNat true) = nI 0 by decide), a1, bdS, hp.1, mm1, i_1, i_19, i_3]
  refine oN_tr (fg_fm (fm_ex a4)) ?_
  have hp1 := roP_k ls D D1 (fm_ex a4) hp
  by_cases k1 : Kq T n (i + 1) = 2
  · have hlt1 := tT_lt gt (show i + 1 ≤ t by omega) (by omega)
    by_cases v1 : Vq T n (i + 1) < R
    · obtain ⟨D2, b1, b2, b3, b4⟩ := m_rn0 (kp := kp) (l2 := nI R - nI 1) hfu h255 hn a3 a2 k1 (hlR hR) (by omega)
      have hV1 := Vq_lt k1
      rw [b1, bdS, bdS, if_neg (m1N (by omega)), m_isW b2.2.2 hK2 (by decide), bdS, tg]
      refine oN_tr (fg_fm b4) ?_
      have hp2 := roP_k ls D1 D2 b4 hp1
      by_cases k2 : Kq T n (i + 2) = 275
      · have hlt2 := tT_lt gt (show i + 2 ≤ t by omega) (by omega)
        obtain ⟨D3, c1, c2, c3, c4⟩ := m_next (kp := kp) (i := i + 2) hfu h255 hn b3 b2 (by omega)
        rw [if_pos (decide_eq_true (show Kq T n (i + 2) = 256 + 19 from k2)), c1, bdS]
        refine oN_tr (fg_fm (fm_ex c4)) ?_
        have hp3 := roP_k ls D2 D3 (fm_ex c4) hp2
        have c2' : RS T n (i + 3) D3 := c2
        by_cases k3 : Kq T n (i + 3) = 2
        · have hlt3 := tT_lt gt (show i + 3 ≤ t by omega) (by omega)
          have hV3 := Vq_lt k3
          rw [if_pos ((m_t3 c2'.2.2).mpr k3), (c2'.2.2.2.2.1 k3).2]
          by_cases v3 : Vq T n (i + 3) < R ∧ Vq T n (i + 3) ≠ Vq T n (i + 1)
          · obtain ⟨D4, d1, d2, d3, d4⟩ := m_rn0 (kp := kp) (i := i + 3) (l2 := nI R - nI 1) hfu h255 hn c3 c2' k3 (hlR hR) (by omega)
            have hp4 := roP_k ls D3 D4 d4 hp3
            have hok : lnR (Kq T n) (Vq T n) R i = .inr (i + 4, (Vq T n (i + 1), Vq T n (i + 3))) := by
              unfold lnR
              rw [if_pos k1, if_pos v1, if_pos k2, if_pos k3, if_pos v3]
            rw [if_neg (fun z => v3.2 ((nI_eq (by omega) (by omega)).mp z)), on1_ok hok]
            unfold fX12_readRope_62
            rw [hp3.1, mm1, i_1, i_0, d1, bdS, if_neg (m1N (by omega)), i_10, addK, e_132_36, l_151, gdI (by omega) (by omega), gdI (by omega) (by omega), nI_clamp (by omega), hp4.2 _ (by omega), i_31, nI_shl (by omega), nI_or, i_59]
            have f5 : fg (ev_up D4 151 (10 + Vq T n (i + 1)) (nI (rfel ls (Vq T n (i + 1)) ||| 2 ^ Vq T n (i + 3)))) D3 := fg_up (fg_fm d4) (.inr (.inr (.inl ⟨rfl, by omega⟩)))
            refine oN_tr f5 (m_mark hfu h255 hn gt (P := fun a D' => roP R (ls ++ [a]) D') (fun a D D' h g => roP_k _ D D' h g) (show i + 4 ≤ t by omega) (RS_of (fun j hj => by rw [upN _ _ _ _ (by decide)]) d2) (mT_fg f5 c3) ⟨by rw [upN _ _ _ _ (by decide)]; exact hp4.1, fun r hr => ?_⟩)
            have hf : rfel (ls ++ [(Vq T n (i + 1), Vq T n (i + 3))]) r = if Vq T n (i + 1) = r then rfel ls r ||| 2 ^ Vq T n (i + 3) else rfel ls r := by
              unfold rfel
              rw [List.foldl_append]
              rfl
            rw [hf]
            by_cases e : Vq T n (i + 1) = r
            · rw [if_pos e, ← e, upS]
            · rw [if_neg e, upJ _ _ _ _ (by omega)]
              exact hp4.2 r hr
          · have her : lnR (Kq T n) (Vq T n) R i = .inl (2, i + 3) := by
              unfold lnR
              rw [if_pos k1, if_pos v1, if_pos k2, if_pos k3, if_neg v3]
            rw [on1_er her]
            by_cases e : Vq T n (i + 3) = Vq T n (i + 1)
            · obtain ⟨D4, d1, d2, d3, d4, _⟩ := m_err (kp := kp) (fu := fu) (f := 2) c2'
              rw [if_pos (congrArg nI e), i_2, d1, bdS]
              exact ⟨D4, rfl, d2, d3, fg_fm d4⟩
            · obtain ⟨D4, d1, d2, d3, d4⟩ := m_rn2 (kp := kp) (fu := fu) (i := i + 3) (l2 := nI R - nI 1) c2' k3 (hlR hR) (by omega)
              rw [if_neg (fun z => e ((nI_eq (by omega) (by omega)).mp z))]
              unfold fX12_readRope_62
              rw [hp3.1, mm1, i_1, i_0, d1, bdS, if_pos rfl]
              exact ⟨D4, rfl, d2, d3, fg_fm d4⟩
        · have her : lnR (Kq T n) (Vq T n) R i = .inl (1, i + 3) := by
            unfold lnR
            rw [if_pos k1, if_pos v1, if_pos k2, if_neg k3]
          obtain ⟨D4, d1, d2, d3, d4⟩ := m_rn1 (kp := kp) (fu := fu) (i := i + 3) (l1 := nI 0) (l2 := nI R - nI 1) c2' k3
          rw [on1_er her, if_neg (fun z => k3 ((m_t3 c2'.2.2).mp z))]
          unfold fX12_readRope_62
          rw [hp3.1, mm1, i_1, i_0, d1, bdS, if_pos rfl]
          exact ⟨D4, rfl, d2, d3, fg_fm d4⟩
      · have her : lnR (Kq T n) (Vq T n) R i = .inl (1, i + 2) := by
          unfold lnR
          rw [if_pos k1, if_pos v1, if_neg k2]
        obtain ⟨D4, d1, d2, d3, d4, _⟩ := m_err (kp := kp) (fu := fu) (f := 1) b2
        rw [on1_er her, if_neg (dF (show ¬ Kq T n (i + 2) = 256 + 19 from k2)), d1, bdS]
        exact ⟨D4, rfl, d2, d3, fg_fm d4⟩
    · have her : lnR (Kq T n) (Vq T n) R i = .inl (2, i + 1) := by
        unfold lnR
        rw [if_pos k1, if_neg v1]
      obtain ⟨D4, d1, d2, d3, d4⟩ := m_rn2 (kp := kp) (fu := fu) (l2 := nI R - nI 1) a2 k1 (hlR hR) (by omega)
      rw [on1_er her, d1, bdS, bdS, if_pos rfl]
      exact ⟨D4, rfl, d2, d3, fg_fm d4⟩
  · have her : lnR (Kq T n) (Vq T n) R i = .inl (1, i + 1) := by
      unfold lnR
      rw [if_neg k1]
    obtain ⟨D4, d1, d2, d3, d4⟩ := m_rn1 (kp := kp) (fu := fu) (l1 := nI 0) (l2 := nI R - nI 1) a2 k1
    rw [on1_er her, d1, bdS, bdS, if_pos rfl]
    exact ⟨D4, rfl, d2, d3, fg_fm d4⟩
end MLn
