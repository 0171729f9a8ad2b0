/-! ===== text: the reference reads conditions: what waits is a pile ===== -/
def aX (q j : Nat) : Prop := mX q j ∨ (q = 132 ∧ (j = 28 ∨ j = 30)) ∨ q = 150
def fa (D' D : ev_D) : Prop := ∀ q j, ¬ aX q j → D' q j = D q j
theorem fa_rf (D : ev_D) : fa D D := fun _ _ _ => rfl
theorem fa_tr {D1 D2 D3 : ev_D} (h1 : fa D2 D1) (h2 : fa D3 D2) : fa D3 D1 := fun q j h => (h2 q j h).trans (h1 q j h)
theorem fa_fm {D1 D : ev_D} (h : fm D1 D) : fa D1 D := fun q j hk => h q j (fun z => hk (.inl z))
theorem fa_up {D1 D : ev_D} {q i : Nat} {v : Int32} (h : fa D1 D) (hx : aX q i) : fa (ev_up D1 q i v) D := fun k j hk => by
  rw [upA, if_neg (fun z => hk (by rw [z.1, z.2]; exact hx))]
  exact h k j hk
theorem a28 : aX 132 28 := .inr (.inl ⟨rfl, .inl rfl⟩)
theorem a30 : aX 132 30 := .inr (.inl ⟨rfl, .inr rfl⟩)
theorem a150 (i : Nat) : aX 150 i := .inr (.inr rfl)
def pend (D : ev_D) (st : List Nat) : Prop := D 132 30 = nI st.length ∧ ∀ k (h : k < st.length), D 150 k = nI st[k]
theorem pend_of {D D' : ev_D} {st : List Nat} (h1 : D' 132 30 = D 132 30) (h2 : ∀ i, D' 150 i = D 150 i) (h : pend D st) : pend D' st := ⟨by rw [h1]; exact h.1, fun i hi => by rw [h2]; exact h.2 i hi⟩
/-- the reference at the token i, o open, st waiting, G told -/
def AS (T : Nat → Nat) (n i o : Nat) (st : List Nat) (G : List lw_C) (D : ev_D) : Prop := RS T n i D ∧ mT T n D ∧ md D G ∧ pend D st ∧ D 132 28 = nI o
section MTru
variable {kp fu n t : Nat} {T : Nat → Nat}
theorem mT_fa {D' D : ev_D} (h : fa D' D) (g : mT T n D) : mT T n D' := ⟨by rw [h 132 13 (fun z => z.elim (nmx (by omega) (by omega)) (by omega))]; exact g.1, fun i hi => by rw [h 141 i (fun z => z.elim (nmx (by omega) (by omega)) (by omega))]; exact g.2.1 i hi, fun i hi => by rw [h 142 i (fun z => z.elim (nmx (by omega) (by omega)) (by omega))]; exact g.2.2 i hi⟩
theorem AS_next (hfu : 30000 ≤ fu) (h255 : ∀ i, T i ≤ 255) (hn : n ≤ 400) {i o : Nat} {st : List Nat} {G : List lw_C} {D : ev_D} (h : AS T n i o st G D) (hi : Kq T n i ≠ 0) : ∃ D', fX12_reads sh_L (sh_E kp) fu 132 D = some (nI 0, D') ∧ AS T n (i + 1) o st G D' ∧ fa D' D := by
  obtain ⟨h1, h2, h3, h4, h5⟩ := h
  obtain ⟨D', a1, a2, a3, a4⟩ := m_next (kp := kp) hfu h255 hn h2 h1 hi
  exact ⟨D', a1, ⟨a2, a3, md_ex a4 rfl h3, pend_of (ex_f a4 (by decide)) (fun i => ex_at a4 (by decide) i) h4, by rw [ex_f a4 (by decide)]; exact h5⟩, fa_fm (fm_ex a4)⟩
theorem AS_wait {i o w : Nat} {st : List Nat} {G : List lw_C} {D : ev_D} (h : AS T n i o st G D) (hs : st.length < 40) : ∃ D', fX12_waits sh_L (sh_E kp) fu 132 (nI w) D = some (nI 0, D') ∧ AS T n i o (st ++ [w]) G D' ∧ fa D' D := by
  obtain ⟨h1, h2, h3, h4, h5⟩ := h
  refine ⟨ev_up (ev_up D 150 st.length (nI w)) 132 30 (nI (st.length + 1)), ?_, ⟨RS_of (fun j hj => by rw [upJ _ _ _ _ (by omega), upN _ _ _ _ (by decide)]) h1, mT_fa (fa_up (fa_up (fa_rf _) (a150 _)) a30) h2, md_of (by rw [upJ _ _ _ _ (by decide), upN _ _ _ _ (by decide)]) (fun i => by rw [upN _ _ _ _ (by decide), upN _ _ _ _ (by decide)]) (fun i => by rw [upN _ _ _ _ (by decide), upN _ _ _ _ (by decide)]) h3, ⟨by rw [upS, List.length_append]; rfl, fun j hj => ?_⟩, by rw [upJ _ _ _ _ (by decide), upN _ _ _ _ (by decide)]; exact h5⟩, fa_up (fa_up (fa_rf _) (a150 _)) a30⟩
  · unfold fX12_waits
    rw [e_132_29, l_150, upN _ _ _ _ (show (132 : Nat) ≠ 150 by decide), h4.1, gdI hs (by omega), nI_clamp (by omega), i_1, addK, i_0]
  · rw [upN _ _ _ _ (by decide)]
    rw [List.length_append] at hj
    by_cases e : j < st.length
    · rw [upJ _ _ _ _ (by omega), List.getElem_append_left e]
      exact h4.2 j e
    · have ej : j = st.length := by simp only [List.length_cons, List.length_nil] at hj; omega
      subst ej
      rw [upS, List.getElem_append_right (Nat.le_refl _)]
      simp
/-- what waits on top comes out -/
theorem AS_set {w c : Nat} (hc : lw_cO (2, c) = nI w) (hw : w < 13) {st : List Nat} (hst : ∀ x, st.getLast? = some x → x ≠ w ∧ x < 13) (hl : st.length ≤ 30) : ∀ (m f i o : Nat) (G : List lw_C) (D : ev_D), m < f → m ≤ 9 → AS T n i (o + (if w = 9 then m else 0)) (st ++ List.replicate m w) G D → G.length + m ≤ 400 → ∃ D', fX12_settles_0 sh_L (sh_E kp) fu f 132 (nI w) D = some (nI 0, D') ∧ AS T n i o st (G ++ List.replicate m (2, c)) D' ∧ fa D' D := by
  intro m
  induction m with
  | zero =>
    intro f i o G D hf hm h hG
    obtain ⟨f, rfl⟩ : ∃ f', f = f' + 1 := ⟨f - 1, by omega⟩
    have h' : AS T n i o st G D := by
      rw [List.replicate_zero, List.append_nil, show o + (if w = 9 then 0 else 0) = o by split <;> omega] at h
      exact h
    refine ⟨D, ?_, by rw [List.replicate_zero, List.append_nil]; exact h', fa_rf _⟩
    obtain ⟨h1, h2, h3, h4, h5⟩ := h'
    rw [fX12_settles_0, h4.1, i_0]
    by_cases e : st.length = 0
    · rw [if_pos (nI_le (by omega) (by decide))]
    · have hlast : st.getLast? = some (st[st.length - 1]'(by omega)) := by
        rw [List.getLast?_eq_getElem?]
        exact List.getElem?_eq_getElem (by omega)
      have hne := hst _ hlast
      rw [if_neg (nI_ge (by omega) (by omega)), i_1, pk_sub (by omega), e_132_29, l_150, gdI (by omega) (by omega), nI_clamp (by omega), h4.2 (st.length - 1) (by omega), if_neg (fun z => hne.1 ((nI_eq (by omega) (by omega)).mp z))]
  | succ m ih =>
    intro f i o G D hf hm h hG
    obtain ⟨f, rfl⟩ : ∃ f', f = f' + 1 := ⟨f - 1, by omega⟩
    obtain ⟨h1, h2, h3, h4, h5⟩ := h
    have hlen : (st ++ List.replicate (m + 1) w).length = st.length + m + 1 := by rw [List.length_append, List.length_replicate]; omega
    have htop : D 150 (st.length + m) = nI w := by
      have := h4.2 (st.length + m) (by omega)
      rw [this, List.getElem_append_right (by omega), List.getElem_replicate]
    have h30 : D 132 30 = nI (st.length + m + 1) := by rw [h4.1, hlen]
    have hd : md (ev_up D 132 30 (nI (st.length + m))) G := md_of (by rw [upJ _ _ _ _ (by decide)]) (fun i => by rw [upN _ _ _ _ (by decide)]) (fun i => by rw [upN _ _ _ _ (by decide)]) h3
    obtain ⟨D2, b1, b2, b3, b4, b5⟩ := m_em (kp := kp) (fu := fu) (2, c) (a := nI 0) (fun z => absurd z (show ¬ 2 ≤ 1 by decide)) hd (by omega)
    have hp2 : ∀ (D3 : ev_D), D3 132 30 = nI (st.length + m) → (∀ i, D3 150 i = D 150 i) → pend D3 (st ++ List.replicate m w) := by
      intro D3 e1 e2
      refine ⟨by rw [e1, List.length_append, List.length_replicate], fun k hk => ?_⟩
      rw [List.length_append, List.length_replicate] at hk
      rw [e2, h4.2 k (by omega)]
      congr 1
      by_cases e : k < st.length
      · rw [List.getElem_append_left e, List.getElem_append_left e]
      · rw [List.getElem_append_right (by omega), List.getElem_append_right (by omega), List.getElem_replicate, List.getElem_replicate]
    have f2 : fa D2 D := fa_tr (fa_up (fa_rf _) a30) (fa_fm b3)
    have hgo : ∀ D3, (∀ j, j ≠ 28 → D3 132 j = D2 132 j) → (∀ q j, q ≠ 132 → D3 q j = D2 q j) → D3 132 28 = nI (o + if w = 9 then m else 0) → AS T n i (o + if w = 9 then m else 0) (st ++ List.replicate m w) (G ++ [(2, c)]) D3 := by
      intro D3 e1 e2 e3
      refine ⟨RS_of (D := D) (fun j hj => by rw [e1 j (by omega), b4 j (by omega), upJ _ _ _ _ (by omega)]) h1, ?_, md_of (e1 27 (by decide)) (fun i => e2 148 i (by decide)) (fun i => e2 149 i (by decide)) b2, hp2 D3 (by rw [e1 30 (by decide), b4 30 (by decide), upS]) (fun i => by rw [e2 150 i (by decide), b5 150 i (by decide) (by decide) (by decide), upN _ _ _ _ (by decide)]), e3⟩
      have := mT_fa f2 h2
      exact ⟨by rw [e1 13 (by decide)]; exact this.1, fun i hi => by rw [e2 141 i (by decide)]; exact this.2.1 i hi, fun i hi => by rw [e2 142 i (by decide)]; exact this.2.2 i hi⟩
    have h28 : D2 132 28 = nI (o + if w = 9 then m + 1 else 0) := by rw [b4 28 (by decide), upJ _ _ _ _ (by decide)]; exact h5
    have hG' : G ++ List.replicate (m + 1) (2, c) = G ++ [(2, c)] ++ List.replicate m (2, c) := by rw [List.replicate_succ, List.append_assoc]; rfl
    rw [fX12_settles_0, h30, i_0, if_neg (nI_ge (by omega) (by omega)), i_1, pk_sub (by omega), show st.length + m + 1 - 1 = st.length + m by omega, e_132_29, l_150, gdI (by omega) (by omega), nI_clamp (by omega), htop, if_pos rfl, ← hc, b1, bdS, hc, i_9]
    by_cases w9 : w = 9
    · rw [if_pos w9] at h28
      rw [if_pos (by rw [w9]), h28, pk_sub (by omega), show o + (m + 1) - 1 = o + m by omega]
      obtain ⟨D', c1, c2, c3⟩ := ih f i o (G ++ [(2, c)]) (ev_up D2 132 28 (nI (o + m))) (by omega) (by omega) (hgo _ (fun j hj => upJ _ _ _ _ hj) (fun q j hq => by rw [upN _ _ _ _ hq]) (by rw [upS, if_pos w9])) (by rw [List.length_append]; simp only [List.length_cons, List.length_nil]; omega)
      exact ⟨D', c1, by rw [hG']; exact c2, fa_tr (fa_up f2 a28) c3⟩
    · rw [if_neg w9] at h28
      rw [if_neg (fun z => w9 ((nI_eq (by omega) (by omega)).mp z))]
      obtain ⟨D', c1, c2, c3⟩ := ih f i o (G ++ [(2, c)]) D2 (by omega) (by omega) (hgo _ (fun j hj => rfl) (fun q j hq => rfl) (by rw [h28, if_neg w9])) (by rw [List.length_append]; simp only [List.length_cons, List.length_nil]; omega)
      exact ⟨D', c1, by rw [hG']; exact c2, fa_tr f2 c3⟩
/-- the end of a condition: a bracket, or all is read -/
def fin (kp fu nf b : Nat) (D : ev_D) : ev_Op := if nI b = nI 0 then some (nI 0, D) else ev_bd (fX12_isSign sh_L (sh_E kp) fu 132 (nI 41) D) (fun v15 D15 => if v15 = nI 0 then ev_bd (fX12_errs sh_L (sh_E kp) fu 132 (nI 1) D15) (fun v19 D19 => some (v19, D19)) else ev_bd (fX12_settles sh_L (sh_E kp) fu 132 (nI 9) (ev_up (ev_up D15 132 30 (D15 132 30 - nI 1)) 132 28 ((ev_up D15 132 30 (D15 132 30 - nI 1)) 132 28 - nI 1))) (fun _ D17 => ev_bd (fX12_reads sh_L (sh_E kp) fu 132 D17) (fun _ D18 => fX12_readAny_9 sh_L (sh_E kp) fu nf 132 (nI b - nI 1) (nI 0) D18)))
def oE (T : Nat → Nat) (n : Nat) (D0 : ev_D) (f i : Nat) (res : ev_Op) : Prop := ∃ D', res = some (mi1, D') ∧ D' 132 31 = nI f ∧ D' 132 32 = nI (Pq T n i) ∧ fa D' D0
/-- how a condition ends -/
def oA (kp fu : Nat) (T : Nat → Nat) (n t b : Nat) (st : List Nat) (o : Nat) (D0 : ev_D) (G : List lw_C) (r : tR lP) (res : ev_Op) : Prop := match r with
  | .inl (f, i) => oE T n D0 f i res
  | .inr (j, p) => ∃ nf D', res = fin kp fu nf b D' ∧ j ≤ t ∧ t < j + 1 + nf ∧ AS T n j o st (G ++ p.2) D' ∧ fa D' D0
/-- how what stands between and and or ends -/
def oP (kp fu : Nat) (T : Nat → Nat) (n t b : Nat) (st : List Nat) (o : Nat) (D0 : ev_D) (G : List lw_C) (r : tR lP) (res : ev_Op) : Prop := match r with
  | .inl (f, i) => oE T n D0 f i res
  | .inr (j, p) => ∃ nf D', res = fX12_readAny_9 sh_L (sh_E kp) fu nf 132 (nI b) (nI 0) D' ∧ j ≤ t ∧ t < j + nf ∧ AS T n j o st (G ++ p.2) D' ∧ fa D' D0
theorem oE_tr {D1 D0 : ev_D} {f i : Nat} {x : ev_Op} (hf : fa D1 D0) (h : oE T n D1 f i x) : oE T n D0 f i x := by
  obtain ⟨D', a1, a2, a3, a4⟩ := h
  exact ⟨D', a1, a2, a3, fa_tr hf a4⟩
theorem oA_tr {b o : Nat} {st : List Nat} {G : List lw_C} {r : tR lP} {D1 D0 : ev_D} {x : ev_Op} (hf : fa D1 D0) (h : oA kp fu T n t b st o D1 G r x) : oA kp fu T n t b st o D0 G r x := by
  cases r with
  | inl y => exact oE_tr hf h
  | inr y =>
    obtain ⟨nf, D', a1, a2, a3, a4, a5⟩ := h
    exact ⟨nf, D', a1, a2, a3, a4, fa_tr hf a5⟩
theorem oE_err {i f : Nat} {D : ev_D} (g : RS T n i D) : oE T n D f i (ev_bd (fX12_errs sh_L (sh_E kp) fu 132 (nI f) D) (fun v6 D6 => some (v6, D6))) := by
  obtain ⟨D', a1, a2, a3, a4, _⟩ := m_err (kp := kp) (fu := fu) (f := f) g
  rw [a1, bdS]
  exact ⟨D', rfl, a2, a3, fa_fm a4⟩
/-- nots -/
theorem m_nots (hfu : 30000 ≤ fu) (h255 : ∀ i, T i ≤ 255) (hn : n ≤ 400) (gt : tT T n t) {b o : Nat} {st : List Nat} {G : List lw_C} (hst : st.length ≤ 3 * o + 2) : ∀ (d o' i nf : Nat) (D : ev_D), o ≤ o' → o' ≤ 8 → 8 < o' + d → i ≤ t → t < i + nf → AS T n i o' (st ++ List.replicate (o' - o) 9) G D → (match nt (Kq T n) d o' i with
    | .inl (f, i') => oE T n D f i' (fX12_readAny_9 sh_L (sh_E kp) fu nf 132 (nI b) (nI 1) D)
    | .inr (j, o2) => ∃ nf' D', fX12_readAny_9 sh_L (sh_E kp) fu nf 132 (nI b) (nI 1) D = fX12_readAny_9 sh_L (sh_E kp) fu nf' 132 (nI b) (nI 1) D' ∧ j ≤ t ∧ t < j + nf' ∧ AS T n j o2 (st ++ List.replicate (o2 - o) 9) G D' ∧ fa D' D) := by
  have ht := gt.1
  intro d
  induction d with
  | zero => intro o' i nf D h1 h2 h3; omega
  | succ d ih =>
    intro o' i nf D h1 h2 h3 hi h4 h
    have hk := Kq_b (n := n) h255 i
    rw [nt]
    by_cases k1 : Kq T n i = 262
    · rw [if_pos k1]
      obtain ⟨nf, rfl⟩ : ∃ f', nf = f' + 1 := ⟨nf - 1, by omega⟩
      have hlt := tT_lt gt hi (by omega)
      have hun : fX12_readAny_9 sh_L (sh_E kp) fu (nf + 1) 132 (nI b) (nI 1) D = fX12_readAny_33 sh_L (sh_E kp) fu (fX12_readAny_9 sh_L (sh_E kp) fu nf) 132 (nI b) (nI 1) (nI 1) D := by
        rw [fX12_readAny_9, i_0, if_neg (show ¬ nI 1 = nI 0 by decide), i_6, m_isW h.1.2.2 hk (by decide), bdS, decide_eq_true k1, if_neg (show ¬ nI (Bool.toNat true) = nI 0 by decide)]
        rfl
      rw [hun]
      unfold fX12_readAny_33
      rw [h.2.2.2.2, i_8]
      by_cases e8 : o' = 8
      · rw [if_pos e8, if_pos (congrArg nI e8), i_3]
        exact oE_err h.1
      · rw [if_neg e8, if_neg (fun z => e8 ((nI_eq (by omega) (by omega)).mp z)), i_0, if_neg (show ¬ nI 1 = nI 0 by decide), i_1, addK]
        unfold fX12_readAny_66 fX12_readAny_78
        rw [i_0, if_neg (show ¬ nI 1 = nI 0 by decide), i_9]
        have h2' : AS T n i (o' + 1) (st ++ List.replicate (o' - o) 9) G (ev_up D 132 28 (nI (o' + 1))) := ⟨RS_of (fun j hj => by rw [upJ _ _ _ _ (by omega)]) h.1, mT_fa (fa_up (fa_rf _) a28) h.2.1, md_of (by rw [upJ _ _ _ _ (by decide)]) (fun i => by rw [upN _ _ _ _ (by decide)]) (fun i => by rw [upN _ _ _ _ (by decide)]) h.2.2.1, pend_of (by rw [upJ _ _ _ _ (by decide)]) (fun i => by rw [upN _ _ _ _ (by decide)]) h.2.2.2.1, upS _ _ _ _⟩
        obtain ⟨D1, a1, a2, a3⟩ := AS_wait (kp := kp) (fu := fu) (w := 9) h2' (by rw [List.length_append, List.length_replicate]; omega)
        obtain ⟨D2, b1, b2, b3⟩ := AS_next (kp := kp) hfu h255 hn a2 (by omega)
        have f2 : fa D2 D := fa_tr (fa_up (fa_rf _) a28) (fa_tr a3 b3)
        rw [a1, bdS, b1, bdS]
        have hI := ih (o' + 1) (i + 1) nf D2 (by omega) (by omega) (by omega) (by omega) (by omega) (by
          rw [List.append_assoc, ← List.replicate_succ', show o' - o + 1 = o' + 1 - o by omega] at b2
          exact b2)
        cases e1 : nt (Kq T n) d (o' + 1) (i + 1) with
        | inl x =>
          rw [e1] at hI
          exact oE_tr f2 hI
        | inr x =>
          obtain ⟨j, o2⟩ := x
          rw [e1] at hI
          obtain ⟨nf', D', c1, c2, c3, c4, c5⟩ := hI
          exact ⟨nf', D', c1, c2, c3, c4, fa_tr f2 c5⟩
    · rw [if_neg k1]
      exact ⟨nf, D, rfl, hi, h4, h, fa_rf _⟩
def rtM (kp fu : Nat) (T : Nat → Nat) (n t k : Nat) (srt : Nat → Nat → tR lP) : Prop := ∀ (o i b nf : Nat) (st : List Nat) (G : List lw_C) (D : ev_D), 10 ≤ k + o → o ≤ 8 → b ≤ o → i ≤ t → t < i + nf → st.length ≤ 3 * o → (∀ x, st.getLast? = some x → x = 12) → AS T n i o st G D → G.length ≤ i → oA kp fu T n t b st o D G (srt o i) (fX12_readAny_9 sh_L (sh_E kp) fu nf 132 (nI b) (nI 1) D)
/-- between and and or: nots, then a bracket or a comparison -/
theorem m_tpr (hfu : 30000 ≤ fu) (h255 : ∀ i, T i ≤ 255) (hn : n ≤ 400) (gt : tT T n t) {k : Nat} {srt : Nat → Nat → tR lP} (hr : rtM kp fu T n t k srt) (hrb : ∀ o i j p, o ≤ 8 → srt o i = .inr (j, p) → i ≤ j ∧ p.1.length + i ≤ j ∧ p.2.length + i ≤ j) {o b i nf : Nat} (hk9 : 9 ≤ k + o) (ho : o ≤ 8) (hb : b ≤ o) (hi : i ≤ t) (hnf : t < i + nf) {st : List Nat} (hst : st.length ≤ 3 * o + 2) (hst2 : ∀ x, st.getLast? = some x → x ≠ 9 ∧ x < 13) {G : List lw_C} (hG : G.length ≤ i) {D : ev_D} (h : AS T n i o st G D) : oP kp fu T n t b st o D G (tpr (Kq T n) (Vq T n) srt o i) (fX12_readAny_9 sh_L (sh_E kp) fu nf 132 (nI b) (nI 1) D) := by
  have ht := gt.1
  have hN := m_nots (kp := kp) (b := b) (st := st) (G := G) hfu h255 hn gt hst 10 o i nf D (Nat.le_refl _) ho (by omega) hi hnf (by rw [Nat.sub_self, List.replicate_zero, List.append_nil]; exact h)
  unfold tpr
  cases e1 : nt (Kq T n) 10 o i with
  | inl x =>
    rw [e1] at hN
    exact hN
  | inr x =>
    obtain ⟨j, o2⟩ := x
    have hb1 := nt_b 10 o i j o2 ho e1
    rw [e1] at hN
    obtain ⟨nf1, D1, a1, a2, a3, a4, a5⟩ := hN
    obtain ⟨nf1, rfl⟩ : ∃ f', nf1 = f' + 1 := ⟨nf1 - 1, by omega⟩
    have hk := Kq_b (n := n) h255 j
    rw [a1]
    have hun : fX12_readAny_9 sh_L (sh_E kp) fu (nf1 + 1) 132 (nI b) (nI 1) D1 = if Kq T n j = 40 then fX12_readAny_33 sh_L (sh_E kp) fu (fX12_readAny_9 sh_L (sh_E kp) fu nf1) 132 (nI b) (nI 1) (nI 0) D1 else ev_bd (fX12_readCompared sh_L (sh_E kp) fu 132 D1) (fun v31 D31 => if v31 = mi1 then some (mi1, D31) else ev_bd (fX12_settles sh_L (sh_E kp) fu 132 (nI 9) D31) (fun _ D33 => fX12_readAny_9 sh_L (sh_E kp) fu nf1 132 (nI b) (nI 0) D33)) := by
      rw [fX12_readAny_9, i_0, if_neg (show ¬ nI 1 = nI 0 by decide), i_6, m_isW a4.1.2.2 hk (by decide), bdS, decide_eq_false (show ¬ Kq T n j = 256 + 6 from hb1.2.2.2.2), if_pos (show nI (Bool.toNat false) = nI 0 from rfl), i_40, m_isC a4.1.2.2 hk (by decide) (by decide), bdS, tg, i_9, mm1]
      by_cases k40 : Kq T n j = 40
      · rw [if_pos (decide_eq_true k40), if_pos k40]; rfl
      · rw [if_neg (dF k40), if_neg k40]
    rw [hun]
    -- after what is inside: nots come out
    have hset : ∀ (j2 : Nat) (p : lP) (nf2 : Nat) (D2 : ev_D), AS T n j2 o2 (st ++ List.replicate (o2 - o) 9) (G ++ p.2) D2 → p.2.length + j ≤ j2 → j2 ≤ t → t < j2 + nf2 → ∃ D3, fX12_settles sh_L (sh_E kp) fu 132 (nI 9) D2 = some (nI 0, D3) ∧ AS T n j2 o st (G ++ (nP (o2 - o) p).2) D3 ∧ fa D3 D2 := by
      intro j2 p nf2 D2 hA hl hj2 _
      obtain ⟨D3, c1, c2, c3⟩ := AS_set (kp := kp) (fu := fu) (T := T) (n := n) (w := 9) (c := 0) rfl (by decide) hst2 (by omega) (o2 - o) fu j2 o (G ++ p.2) D2 (by omega) (by omega) (by rw [if_pos rfl, show o + (o2 - o) = o2 by omega]; exact hA) (by rw [List.length_append]; omega)
      refine ⟨D3, c1, ?_, c3⟩
      rw [List.append_assoc] at c2
      exact c2
    show oP _ _ _ _ _ _ _ _ _ _ (match inn (Kq T n) (Vq T n) srt o2 j with
      | .inl x => (.inl x : tR lP)
      | .inr (j3, p) => .inr (j3, nP (o2 - o) p)) _
    unfold inn
    by_cases k40 : Kq T n j = 40
    · have hlt := tT_lt gt a2 (by omega)
      rw [if_pos k40, if_pos k40]
      unfold fX12_readAny_33
      rw [a4.2.2.2.2, i_8, i_0]
      by_cases o8 : o2 < 8
      · rw [if_pos o8, if_neg (show ¬ nI o2 = nI 8 from fun z => by rw [nI_eq (by omega) (by omega)] at z; omega), if_pos rfl, i_1, addK, addK]
        unfold fX12_readAny_66 fX12_readAny_78
        rw [i_0, if_pos rfl, i_12]
        have h2' : AS T n j (o2 + 1) (st ++ List.replicate (o2 - o) 9) G (ev_up D1 132 28 (nI (o2 + 1))) := ⟨RS_of (fun j hj => by rw [upJ _ _ _ _ (by omega)]) a4.1, mT_fa (fa_up (fa_rf _) a28) a4.2.1, md_of (by rw [upJ _ _ _ _ (by decide)]) (fun i => by rw [upN _ _ _ _ (by decide)]) (fun i => by rw [upN _ _ _ _ (by decide)]) a4.2.2.1, pend_of (by rw [upJ _ _ _ _ (by decide)]) (fun i => by rw [upN _ _ _ _ (by decide)]) a4.2.2.2.1, upS _ _ _ _⟩
        obtain ⟨D2, b1, b2, b3⟩ := AS_wait (kp := kp) (fu := fu) (w := 12) h2' (by rw [List.length_append, List.length_replicate]; omega)
        obtain ⟨D3, c1, c2, c3⟩ := AS_next (kp := kp) hfu h255 hn b2 (by omega)
        have f3 : fa D3 D := fa_tr a5 (fa_tr (fa_up (fa_rf _) a28) (fa_tr b3 c3))
        rw [b1, bdS, c1, bdS]
        have hI := hr (o2 + 1) (j + 1) (b + 1) nf1 (st ++ List.replicate (o2 - o) 9 ++ [12]) G D3 (by omega) (by omega) (by omega) (by omega) (by omega) (by rw [List.length_append, List.length_append, List.length_replicate]; simp only [List.length_cons, List.length_nil]; omega) (fun x hx => by
          rw [List.getLast?_append] at hx
          simp at hx
          exact hx.symm) c2 (by omega)
        cases e2 : srt (o2 + 1) (j + 1) with
        | inl x =>
          rw [e2] at hI
          exact oE_tr f3 hI
        | inr x =>
          obtain ⟨j2, p⟩ := x
          have hpb := hrb _ _ _ _ (by omega) e2
          rw [e2] at hI
          obtain ⟨nf2, D4, d1, d2, d3, d4, d5⟩ := hI
          have hkj := Kq_b (n := n) h255 j2
          show oP _ _ _ _ _ _ _ _ _ _ (match (if Kq T n j2 = 41 then (.inr (j2 + 1, p) : tR lP) else .inl (1, j2)) with
            | .inl x => (.inl x : tR lP)
            | .inr (j3, p) => .inr (j3, nP (o2 - o) p)) _
          rw [d1]
          unfold fin
          rw [if_neg (show ¬ nI (b + 1) = nI 0 from fun z => by rw [nI_eq (by omega) (by omega)] at z; omega), m_isC d4.1.2.2 hkj (by decide) (by decide), bdS, tg]
          by_cases k41 : Kq T n j2 = 41
          · have hlt2 := tT_lt gt d2 (by omega)
            have hlen : (st ++ List.replicate (o2 - o) 9 ++ [12]).length = st.length + (o2 - o) + 1 := by rw [List.length_append, List.length_append, List.length_replicate]; rfl
            have h30 : D4 132 30 = nI (st.length + (o2 - o) + 1) := by rw [d4.2.2.2.1.1, hlen]
            rw [if_pos k41, if_pos (decide_eq_true k41), h30, upJ _ _ _ _ (show (28 : Nat) ≠ 30 by decide), d4.2.2.2.2, pk_sub (by omega), pk_sub (by omega), pk_sub (by omega), Nat.add_sub_cancel, Nat.add_sub_cancel, Nat.add_sub_cancel]
            have h4' : AS T n j2 o2 (st ++ List.replicate (o2 - o) 9) (G ++ p.2) (ev_up (ev_up D4 132 30 (nI (st.length + (o2 - o)))) 132 28 (nI o2)) := by
              refine ⟨RS_of (fun j hj => by rw [upJ _ _ _ _ (by omega), upJ _ _ _ _ (by omega)]) d4.1, mT_fa (fa_up (fa_up (fa_rf _) a30) a28) d4.2.1, md_of (by rw [upJ _ _ _ _ (by decide), upJ _ _ _ _ (by decide)]) (fun i => by rw [upN _ _ _ _ (by decide), upN _ _ _ _ (by decide)]) (fun i => by rw [upN _ _ _ _ (by decide), upN _ _ _ _ (by decide)]) d4.2.2.1, ⟨by rw [upJ _ _ _ _ (by decide), upS, List.length_append, List.length_replicate], fun q hq => ?_⟩, upS _ _ _ _⟩
              rw [upN _ _ _ _ (by decide), upN _ _ _ _ (by decide)]
              have hq' : q < st.length + (o2 - o) := by rw [List.length_append, List.length_replicate] at hq; exact hq
              rw [d4.2.2.2.1.2 q (by omega), List.getElem_append_left hq]
            obtain ⟨D5, e1', e2', e3'⟩ := hset j2 p (nf2 + 1) _ h4' (by omega) d2 (by omega)
            obtain ⟨D6, g1, g2, g3⟩ := AS_next (kp := kp) hfu h255 hn e2' (by omega)
            rw [e1', bdS, g1, bdS]
            exact ⟨nf2, D6, rfl, by omega, by omega, g2, fa_tr f3 (fa_tr d5 (fa_tr (fa_up (fa_up (fa_rf _) a30) a28) (fa_tr e3' g3)))⟩
          · rw [if_neg k41, if_neg (dF k41)]
            exact oE_tr (fa_tr f3 d5) (oE_err d4.1)
      · rw [if_neg o8, if_pos (by rw [show o2 = 8 by omega]), i_3]
        exact oE_tr a5 (oE_err a4.1)
    · rw [if_neg k40, if_neg k40]
      have hp := m_cmp (kp := kp) (G := G) hfu h255 hn gt a2 a4.2.1 a4.1 a4.2.2.1 (by omega)
      cases e2 : cm (Kq T n) (Vq T n) j with
      | inl x =>
        rw [e2] at hp
        obtain ⟨D', c1, c2, c3, c4⟩ := hp
        show oE _ _ _ _ _ _
        rw [c1, bdS, if_pos rfl]
        exact ⟨D', rfl, c2, c3, fa_tr a5 (fa_fm c4)⟩
      | inr x =>
        obtain ⟨j2, l⟩ := x
        have hcb := cm_b e2
        rw [e2] at hp
        obtain ⟨D2, c1, c2, c3, c4, c5⟩ := hp
        have hA2 : AS T n j2 o2 (st ++ List.replicate (o2 - o) 9) (G ++ (l, l).2) D2 := ⟨c3, mT_fm c5 a4.2.1, c4, pend_of (c5 _ _ (nmx (by omega) (by omega))) (fun i => c5 _ _ (nmx (by omega) (by omega))) a4.2.2.2.1, by rw [c5 _ _ (nmx (by omega) (by omega))]; exact a4.2.2.2.2⟩
        obtain ⟨D5, e1', e2', e3'⟩ := hset j2 (l, l) (nf1 + 1) _ hA2 hcb.2 c2 (by omega)
        rw [c1, bdS, if_neg (m1N (by decide)), e1', bdS]
        exact ⟨nf1, D5, rfl, c2, by omega, e2', fa_tr a5 (fa_tr (fa_fm c5) e3')⟩
def sW (A : Option lP) (w : Nat) : List Nat := match A with
  | none => []
  | some _ => [w]
theorem sW_r (A : Option lP) (w : Nat) : sW A w = List.replicate A.isSome.toNat w := by
  cases A <;> rfl
theorem last_app {st : List Nat} {A : Option lP} {w : Nat} {P : Nat → Prop} (h : ∀ x, st.getLast? = some x → P x) (hw : P w) : ∀ x, (st ++ sW A w).getLast? = some x → P x := by
  intro x hx
  cases A with
  | none =>
    rw [show sW (none : Option lP) w = [] from rfl, List.append_nil] at hx
    exact h x hx
  | some y =>
    rw [show sW (some y) w = [w] from rfl, List.getLast?_append] at hx
    simp at hx
    rw [← hx]
    exact hw
theorem oa_1 (A : Option lP) (c : Nat) (G : List lw_C) (p : lP) : G ++ oa 1 A ++ p.2 ++ List.replicate A.isSome.toNat (2, c) = G ++ (jn A c p).2 := by
  cases A with
  | none => simp [oa, jn]
  | some x => simp [oa, jn]
theorem ol_1 (A : Option lP) : ol A 1 = (oa 1 A).length + A.isSome.toNat := by
  cases A <;> rfl
theorem m_trL (hfu : 30000 ≤ fu) (h255 : ∀ i, T i ≤ 255) (hn : n ≤ 400) (gt : tT T n t) {k : Nat} {srt : Nat → Nat → tR lP} (hr : rtM kp fu T n t k srt) (hrb : ∀ o i j p, o ≤ 8 → srt o i = .inr (j, p) → i ≤ j ∧ p.1.length + i ≤ j ∧ p.2.length + i ≤ j) {o b : Nat} (hk9 : 9 ≤ k + o) (ho : o ≤ 8) (hb : b ≤ o) {st : List Nat} (hst : st.length ≤ 3 * o) (hst2 : ∀ x, st.getLast? = some x → x = 12) {G : List lw_C} : ∀ (d i : Nat) (A B : Option lP) (nf : Nat) (D : ev_D), i ≤ t → t < i + d → t < i + nf → AS T n i o (st ++ sW A 11 ++ sW B 10) (G ++ oa 1 A ++ oa 1 B) D → G.length + ol A 1 + ol B 1 ≤ i → oA kp fu T n t b st o D G (trL (Kq T n) (Vq T n) srt o d i A B) (fX12_readAny_9 sh_L (sh_E kp) fu nf 132 (nI b) (nI 1) D) := by
  have ht := gt.1
  intro d
  induction d with
  | zero => intro i A B nf D hi h1; omega
  | succ d ih =>
    intro i A B nf D hi h1 h2 h hG
    have hsA : (sW A 11).length ≤ 1 := by cases A <;> simp [sW]
    have hsB : (sW B 10).length ≤ 1 := by cases B <;> simp [sW]
    have hoA := ol_1 A
    have hoB := ol_1 B
    have hl2 : ∀ x, (st ++ sW A 11).getLast? = some x → x ≠ 10 ∧ x < 13 := last_app (P := fun x => x ≠ 10 ∧ x < 13) (fun x hx => by rw [hst2 x hx]; decide) (by decide)
    have hl1 : ∀ x, st.getLast? = some x → x ≠ 11 ∧ x < 13 := fun x hx => by rw [hst2 x hx]; decide
    have hP := m_tpr (kp := kp) (b := b) (st := st ++ sW A 11 ++ sW B 10) (G := G ++ oa 1 A ++ oa 1 B) hfu h255 hn gt hr hrb hk9 ho hb hi h2 (by rw [List.length_append, List.length_append]; omega) (last_app (P := fun x => x ≠ 9 ∧ x < 13) (last_app (P := fun x => x ≠ 9 ∧ x < 13) (fun x hx => by rw [hst2 x hx]; decide) (by decide)) (by decide)) (by rw [List.length_append, List.length_append]; omega) h
    rw [trL]
    cases e1 : tpr (Kq T n) (Vq T n) srt o i with
    | inl x =>
      rw [e1] at hP
      exact hP
    | inr x =>
      obtain ⟨j, p⟩ := x
      have hpb : i ≤ j ∧ p.1.length + i ≤ j ∧ p.2.length + i ≤ j := by
        have hr' : rtB (fun o i => if o ≤ 8 then srt o i else .inl (9, i)) := by
          intro o i j p h
          by_cases q : o ≤ 8
          · have h : srt o i = .inr (j, p) := by rw [← h]; exact (if_pos q).symm
            exact hrb o i j p q h
          · have h : (.inl (9, i) : tR lP) = .inr (j, p) := by rw [← h]; exact (if_neg q).symm
            cases h
        refine tpr_b (K := Kq T n) (V := Vq T n) (rt := fun o i => if o ≤ 8 then srt o i else .inl (9, i)) hr' ho ?_
        rw [← e1]
        unfold tpr
        cases e0 : nt (Kq T n) 10 o i with
        | inl x => rfl
        | inr x =>
          obtain ⟨j0, o2⟩ := x
          have hb1 := nt_b 10 o i j0 o2 ho e0
          have he : inn (Kq T n) (Vq T n) (fun o i => if o ≤ 8 then srt o i else .inl (9, i)) o2 j0 = inn (Kq T n) (Vq T n) srt o2 j0 := by
            unfold inn
            by_cases h1 : Kq T n j0 = 40
            · rw [if_pos h1, if_pos h1]
              by_cases h2 : o2 < 8
              · rw [if_pos h2, if_pos h2, show (fun o i => if o ≤ 8 then srt o i else .inl (9, i)) (o2 + 1) (j0 + 1) = srt (o2 + 1) (j0 + 1) from if_pos (by omega)]
              · rw [if_neg h2, if_neg h2]
            · rw [if_neg h1, if_neg h1]
          simp only [he]
      rw [e1] at hP
      obtain ⟨nf1, D1, a1, a2, a3, a4, a5⟩ := hP
      obtain ⟨nf1, rfl⟩ : ∃ f', nf1 = f' + 1 := ⟨nf1 - 1, by omega⟩
      have hk := Kq_b (n := n) h255 j
      have hj8 := jn_b B 8 p
      have hj9 := jn_b A 9 (jn B 8 p)
      -- and comes out
      obtain ⟨D2, b1, b2, b3⟩ : ∃ D2, fX12_settles sh_L (sh_E kp) fu 132 (nI 10) D1 = some (nI 0, D2) ∧ AS T n j o (st ++ sW A 11) (G ++ oa 1 A ++ (jn B 8 p).2) D2 ∧ fa D2 D1 := by
        have hm : B.isSome.toNat ≤ 1 := Bool.toNat_le _
        obtain ⟨D2, c1, c2, c3⟩ := AS_set (kp := kp) (fu := fu) (T := T) (n := n) (w := 10) (c := 8) rfl (by decide) hl2 (by rw [List.length_append]; omega) B.isSome.toNat fu j o (G ++ oa 1 A ++ oa 1 B ++ p.2) D1 (by omega) (by omega) (by rw [if_neg (by decide), Nat.add_zero, ← sW_r]; exact a4) (by simp only [List.length_append]; omega)
        refine ⟨D2, c1, ?_, c3⟩
        rw [oa_1 B 8 (G ++ oa 1 A) p] at c2
        exact c2
      have hlt : ∀ z, Kq T n j = z → z ≠ 0 → j < t := fun z hz h0 => tT_lt gt a2 (by omega)
      show oA _ _ _ _ _ _ _ _ _ _ (if Kq T n j = 261 then _ else _) _
      rw [a1, fX12_readAny_9, i_0, if_pos rfl, i_5, m_isW a4.1.2.2 hk (by decide), bdS, tg]
      by_cases k261 : Kq T n j = 261
      · have hltj := hlt 261 k261 (by decide)
        rw [if_pos k261, if_pos (decide_eq_true k261), i_10, b1, bdS]
        obtain ⟨D3, c1, c2, c3⟩ := AS_wait (kp := kp) (fu := fu) (w := 10) b2 (by rw [List.length_append]; omega)
        obtain ⟨D4, d1, d2, d3⟩ := AS_next (kp := kp) hfu h255 hn c2 (by omega)
        rw [c1, bdS, d1, bdS, i_1]
        refine oA_tr (fa_tr a5 (fa_tr b3 (fa_tr c3 d3))) (ih (j + 1) A (some (jn B 8 p)) nf1 D4 (by omega) (by omega) (by omega) d2 ?_)
        have : ol (some (jn B 8 p)) 1 = (jn B 8 p).2.length + 1 := rfl
        omega
      · rw [if_neg k261, if_neg (dF (show ¬ Kq T n j = 256 + 5 from k261)), i_4, m_isW a4.1.2.2 hk (by decide), bdS, tg, i_10, i_11]
        obtain ⟨D3, c1, c2, c3⟩ : ∃ D3, fX12_settles sh_L (sh_E kp) fu 132 (nI 11) D2 = some (nI 0, D3) ∧ AS T n j o st (G ++ (jn A 9 (jn B 8 p)).2) D3 ∧ fa D3 D2 := by
          have hm : A.isSome.toNat ≤ 1 := Bool.toNat_le _
          obtain ⟨D3, c1, c2, c3⟩ := AS_set (kp := kp) (fu := fu) (T := T) (n := n) (w := 11) (c := 9) rfl (by decide) hl1 (by omega) A.isSome.toNat fu j o (G ++ oa 1 A ++ (jn B 8 p).2) D2 (by omega) (by omega) (by rw [if_neg (by decide), Nat.add_zero, ← sW_r]; exact b2) (by simp only [List.length_append]; omega)
          refine ⟨D3, c1, ?_, c3⟩
          rw [oa_1 A 9 G (jn B 8 p)] at c2
          exact c2
        by_cases k260 : Kq T n j = 260
        · have hltj := hlt 260 k260 (by decide)
          rw [if_pos k260, if_pos (decide_eq_true k260), b1, bdS, c1, bdS]
          obtain ⟨D4, d1, d2, d3⟩ := AS_wait (kp := kp) (fu := fu) (w := 11) c2 (by omega)
          obtain ⟨D5, e1', e2', e3'⟩ := AS_next (kp := kp) hfu h255 hn d2 (by omega)
          rw [d1, bdS, e1', bdS, i_1]
          refine oA_tr (fa_tr a5 (fa_tr b3 (fa_tr c3 (fa_tr d3 e3')))) (ih (j + 1) (some (jn A 9 (jn B 8 p))) none nf1 D5 (by omega) (by omega) (by omega) ?_ ?_)
          · show AS T n (j + 1) o (st ++ [11] ++ []) (G ++ (jn A 9 (jn B 8 p)).2 ++ []) D5
            rw [List.append_nil, List.append_nil]
            exact e2'
          · have : ol (some (jn A 9 (jn B 8 p))) 1 = (jn A 9 (jn B 8 p)).2.length + 1 := rfl
            have : ol none 1 = 0 := rfl
            omega
        · rw [if_neg k260, if_neg (dF (show ¬ Kq T n j = 256 + 4 from k260)), b1, bdS, c1, bdS]
          refine ⟨nf1, D3, ?_, a2, by omega, c2, fa_tr a5 (fa_tr b3 c3)⟩
          unfold fin
          rw [i_41, i_1, i_9]
theorem m_tr (hfu : 30000 ≤ fu) (h255 : ∀ i, T i ≤ 255) (hn : n ≤ 400) (gt : tT T n t) : ∀ k, rtM kp fu T n t k (tr (Kq T n) (Vq T n) k)
  | 0, o, i, b, nf, st, G, D, h1, h2, _, _, _, _, _, _, _ => by omega
  | k + 1, o, i, b, nf, st, G, D, h1, h2, hb, hi, hnf, hst, hst2, h, hG => by
    have ht := gt.1
    rw [tr]
    refine m_trL (kp := kp) (G := G) hfu h255 hn gt (m_tr hfu h255 hn gt k) (fun o i j p h8 h => tr_b k o i j p h8 h) (by omega) h2 hb hst hst2 402 i none none nf D hi (by omega) hnf ?_ ?_
    · show AS T n i o (st ++ [] ++ []) (G ++ [] ++ []) D
      simp only [List.append_nil]
      exact h
    · show G.length + 0 + 0 ≤ i
      omega
theorem m_any (hfu : 30000 ≤ fu) (h255 : ∀ i, T i ≤ 255) (hn : n ≤ 400) (gt : tT T n t) {i : Nat} {G : List lw_C} {D : ev_D} (hi : i ≤ t) (g : RS T n i D) (hM : mT T n D) (hd : md D G) (h28 : D 132 28 = nI 0) (hG : G.length ≤ i) : (match tr (Kq T n) (Vq T n) 10 0 i with
    | .inl (f, i') => oE T n D f i' (fX12_readAny sh_L (sh_E kp) fu 132 D)
    | .inr (j, p) => ∃ D', fX12_readAny sh_L (sh_E kp) fu 132 D = some (nI 0, D') ∧ j ≤ t ∧ RS T n j D' ∧ mT T n D' ∧ md D' (G ++ p.2) ∧ D' 132 28 = nI 0 ∧ fa D' D) := by
  have ht := gt.1
  have h : AS T n i 0 [] G (ev_up D 132 30 (nI 0)) := ⟨RS_of (fun j hj => by rw [upJ _ _ _ _ (by omega)]) g, mT_fa (fa_up (fa_rf _) a30) hM, md_of (by rw [upJ _ _ _ _ (by decide)]) (fun i => by rw [upN _ _ _ _ (by decide)]) (fun i => by rw [upN _ _ _ _ (by decide)]) hd, ⟨upS _ _ _ _, fun k hk => (by cases hk)⟩, by rw [upJ _ _ _ _ (by decide)]; exact h28⟩
  have hA := m_tr (kp := kp) hfu h255 hn gt 10 0 i 0 fu [] G _ (by decide) (by decide) (by decide) hi (by omega) (by decide) (fun x hx => by cases hx) h hG
  unfold fX12_readAny
  rw [i_0, i_1]
  cases e : tr (Kq T n) (Vq T n) 10 0 i with
  | inl x =>
    rw [e] at hA
    exact oE_tr (fa_up (fa_rf _) a30) hA
  | inr x =>
    obtain ⟨j, p⟩ := x
    rw [e] at hA
    obtain ⟨nf', D', a1, a2, a3, a4, a5⟩ := hA
    refine ⟨D', ?_, a2, a4.1, a4.2.1, a4.2.2.1, a4.2.2.2.2, fa_tr (fa_up (fa_rf _) a30) a5⟩
    rw [a1]
    unfold fin
    rw [if_pos rfl]
end MTru
