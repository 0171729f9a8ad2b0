/-! ===== text: the reference reads one token ===== -/
section Reads
variable {L : Nat → Nat} {E : Nat → Nat → Nat} {fu kp n q : Nat} {T : Nat → Nat} {D : ev_D}
theorem m_in {c a b : Nat} (hc : c < 2 ^ 31) (ha : a < 2 ^ 31) (hb : b < 2 ^ 31) : fX12_isIn L E fu q (nI c) (nI a) (nI b) D = some (nI (decide (a ≤ c ∧ c ≤ b)).toNat, D) := by
  by_cases h : a ≤ c ∧ c ≤ b
  · rw [e_isInM _ _ _ _ _ h.1 h.2 hb, decide_eq_true h]; rfl
  · rw [decide_eq_false h]
    by_cases h1 : a ≤ c
    · exact e_isInM0 _ _ _ _ _ (.inr (nI_lt (by omega) hc))
    · exact e_isInM0 _ _ _ _ _ (.inl (nI_lt (by omega) ha))
theorem gb {b : Bool} {x : ev_Op} : ev_gd (nI b.toNat == 0 || nI b.toNat == 1) x = x := gdT (by cases b <;> decide)
theorem m_isL {c : Nat} (h : c ≤ 255) : fX12_isLetter L E fu q (nI c) D = some (nI (isL c).toNat, D) := by
  unfold fX12_isLetter isL
  rw [i_97, i_122, i_65, i_90, m_in (by omega) (by omega) (by omega), bdS, i_0, tg, i_1]
  by_cases h1 : 97 ≤ c ∧ c ≤ 122
  · rw [if_pos (decide_eq_true h1), decide_eq_true (Or.inl h1)]; rfl
  · rw [if_neg (by rw [decide_eq_false h1]; decide), m_in (by omega) (by omega) (by omega), bdS, tg]
    by_cases h2 : 65 ≤ c ∧ c ≤ 90
    · rw [if_pos (decide_eq_true h2), decide_eq_true (Or.inr h2)]; rfl
    · rw [if_neg (by rw [decide_eq_false h2]; decide), decide_eq_false (fun z => z.elim h1 h2)]; rfl
theorem m_isL1 : fX12_isLetter L E fu q mi1 D = some (nI 0, D) := by
  unfold fX12_isLetter
  rw [i_97, i_122, i_65, i_90, e_isInM0 _ _ _ _ _ (x := mi1) (.inl (m1_lt (by decide))), bdS, i_0, if_pos rfl, e_isInM0 _ _ _ _ _ (x := mi1) (.inl (m1_lt (by decide))), bdS, if_pos rfl]
theorem m_isG {c : Nat} (h : c ≤ 255) : fX12_isDigit L E fu q (nI c) D = some (nI (isG c).toNat, D) := by
  unfold fX12_isDigit isG
  rw [i_48, i_57, m_in (by omega) (by omega) (by omega), bdS, gb]
theorem m_isG1 : fX12_isDigit L E fu q mi1 D = some (nI 0, D) := by
  unfold fX12_isDigit
  rw [i_48, i_57, e_isInM0 _ _ _ _ _ (x := mi1) (.inl (m1_lt (by decide))), bdS]
  rfl
theorem m_isS {c : Nat} (h : c ≤ 255) : fX12_isMarkSign L E fu q (nI c) D = some (nI (isS c).toNat, D) := by
  unfold fX12_isMarkSign
  simp (disch := omega) only [i_59, i_43, i_45, i_42, i_47, i_40, i_41, i_60, i_61, i_62, i_1, i_0, nI_eq]
  repeat' split
  all_goals first
    | (subst_vars; rfl)
    | skip
  rw [show isS c = false by
    cases e : isS c with
    | false => rfl
    | true =>
      have := mem_iff.mp e
      simp only [List.mem_cons, List.not_mem_nil, or_false] at this
      omega]
  rfl
/-- the reference's tape and words -/
def mT (T : Nat → Nat) (n : Nat) (D : ev_D) : Prop := D 132 13 = nI n ∧ (∀ i, i < 400 → D 141 i = nI (T i)) ∧ ∀ i, i < 152 → D 142 i = nI (wl.getD i 0)
def rwv (T : Nat → Nat) (n p : Nat) : Int32 := if p < n then nI (T p) else mi1
theorem rwv_lt {p : Nat} (h : p < n) : rwv T n p = nI (T p) := if_pos h
theorem rwv_ge {p : Nat} (h : ¬ p < n) : rwv T n p = mi1 := if_neg h
theorem m_raw (h : mT T n D) (hn : n ≤ 400) {p : Nat} (hp : p ≤ n) : fX12_raw sh_L (sh_E kp) fu 132 (nI p) D = some (rwv T n p, D) := by
  unfold fX12_raw rwv
  rw [h.1]
  by_cases h1 : p < n
  · rw [if_neg (nI_ge h1 (by omega)), if_pos h1, e_132_12, l_141, gdI (by omega) (by omega), nI_clamp (by omega), h.2.1 p (by omega)]
  · rw [if_pos (nI_le (by omega) (by omega)), if_neg h1]; rfl
theorem mT_ex {D' : ev_D} {sf : List Nat} (he : ex [] sf D' D) (hs : mem sf 13 = false) (h : mT T n D) : mT T n D' := by
  refine ⟨by rw [ex_f he (by rw [hs]; rfl)]; exact h.1, fun i hi => ?_, fun i hi => ?_⟩
  · rw [ex_at he (by decide)]; exact h.2.1 i hi
  · rw [ex_at he (by decide)]; exact h.2.2 i hi
theorem m_w94 {a b j o : Nat} {w : List Nat} (K : Nat → Int32 → Int32 → Int32 → Int32 → ev_D → ev_Op) (hw : ∀ i, i < w.length → D 142 (o + i) = nI (w.getD i 0) ∧ w.getD i 0 ≠ 32 ∧ w.getD i 0 ≤ 255) (h32 : D 142 (o + w.length) = nI 32) (ho : o + w.length < 152) (r : Nat) : ∀ m f, m + r = w.length → r < f → fX12_wordAt_94 sh_L (sh_E kp) fu K f 132 (nI a) (nI b) (nI j) (nI (o + m)) D = K 132 (nI a) (nI b) (nI j) (nI (o + w.length)) D := by
  induction r with
  | zero =>
    intro m f hm hf
    obtain ⟨f, rfl⟩ : ∃ f', f = f' + 1 := ⟨f - 1, by omega⟩
    have hm' : m = w.length := by omega
    rw [hm', fX12_wordAt_94, e_132_18, l_142, gdI (by omega) (by omega), nI_clamp (by omega), h32, i_32, if_pos rfl]
  | succ r ih =>
    intro m f hm hf
    obtain ⟨f, rfl⟩ : ∃ f', f = f' + 1 := ⟨f - 1, by omega⟩
    obtain ⟨w1, w2, w3⟩ := hw m (by omega)
    rw [fX12_wordAt_94, e_132_18, l_142, gdI (by omega) (by omega), nI_clamp (by omega), w1, i_32, if_neg (fun h => w2 ((nI_eq (by omega) (by omega)).mp h)), i_1, addK]
    exact ih (m + 1) f (by omega) (by omega)
theorem m_w20 (hfu : 30000 ≤ fu) {a b j k : Nat} {w : List Nat} (K : Nat → Int32 → Int32 → Int32 → Int32 → ev_D → ev_Op) (hab : a ≤ b) (hb : b ≤ 400) (h255 : ∀ i, T i ≤ 255) (hT : ∀ i, i < 400 → D 141 i = nI (T i)) (hne : ∀ i, a ≤ i → i < b → T i ≠ 32) (hw : ∀ i, i < w.length → D 142 (k + 1 + i) = nI (w.getD i 0) ∧ w.getD i 0 ≠ 32 ∧ w.getD i 0 ≤ 255) (h32 : D 142 (k + 1 + w.length) = nI 32) (ho : k + 1 + w.length < 152) (r : Nat) : ∀ i f, i + r = b - a → r < f → i ≤ w.length → (∀ z, z < i → w.getD z 0 = T (a + z)) → fX12_wordAt_20 sh_L (sh_E kp) fu K f 132 (nI a) (nI b) (nI j) (nI k) (nI i) D = if w = sl T a b then some (nI j, D) else K 132 (nI a) (nI b) (nI j) (nI (k + 1 + w.length)) D := by
  have h94 : fX12_wordAt_94 sh_L (sh_E kp) fu K fu 132 (nI a) (nI b) (nI j) (nI (k + 1)) D = K 132 (nI a) (nI b) (nI j) (nI (k + 1 + w.length)) D := by
    have := m_w94 (kp := kp) (fu := fu) (a := a) (b := b) (j := j) K hw h32 ho w.length 0 fu (by omega) (by omega)
    rw [Nat.add_zero] at this
    exact this
  induction r with
  | zero =>
    intro i f hi hf hil hz
    obtain ⟨f, rfl⟩ : ∃ f', f = f' + 1 := ⟨f - 1, by omega⟩
    rw [fX12_wordAt_20, addK, if_pos (nI_le (by omega) (by omega))]
    unfold fX12_wordAt_61
    rw [addK, show a + i = b by omega, if_pos rfl, i_1, addK, addK, e_132_18, l_142, gdI (by omega) (by omega), nI_clamp (by omega), h94, i_32]
    by_cases e : i = w.length
    · rw [e, h32, if_pos rfl, if_pos]
      apply List.ext_getElem (by rw [sl_len]; omega)
      intro y q1 q2
      rw [sl_get, ← hz y (by omega), gtD q1]
    · obtain ⟨w1, w2, w3⟩ := hw i (by omega)
      rw [w1, if_neg (fun h => w2 ((nI_eq (by omega) (by omega)).mp h)), if_neg]
      intro e2
      apply e
      rw [e2, sl_len]
      omega
  | succ r ih =>
    intro i f hi hf hil hz
    obtain ⟨f, rfl⟩ : ∃ f', f = f' + 1 := ⟨f - 1, by omega⟩
    have hlt : a + i < b := by omega
    have h255i := h255 (a + i)
    rw [fX12_wordAt_20, addK, if_neg (nI_ge hlt (by omega)), i_1, addK, addK, addK, e_132_18, l_142, gdI (by omega) (by omega), e_132_12, l_141, gdI (by omega) (by omega), nI_clamp (by omega), nI_clamp (by omega), hT (a + i) (by omega)]
    have h61 : ¬ w = sl T a b → fX12_wordAt_61 sh_L (sh_E kp) fu K 132 (nI a) (nI b) (nI j) (nI k) (nI i) D = if w = sl T a b then some (nI j, D) else K 132 (nI a) (nI b) (nI j) (nI (k + 1 + w.length)) D := by
      intro e
      unfold fX12_wordAt_61
      rw [addK, if_neg (fun h => by rw [nI_eq (by omega) (by omega)] at h; omega), i_1, addK, h94, if_neg e]
    by_cases e : i = w.length
    · have e2 : D 142 (k + 1 + i) = nI 32 := by rw [e]; exact h32
      have := hne (a + i) (by omega) hlt
      rw [e2, if_neg (fun h => by rw [nI_eq (by omega) (by omega)] at h; omega)]
      refine h61 fun e2 => ?_
      have := congrArg List.length e2
      rw [sl_len] at this
      omega
    · obtain ⟨w1, w2, w3⟩ := hw i (by omega)
      rw [w1]
      by_cases h4 : w.getD i 0 = T (a + i)
      · rw [if_pos (by rw [h4])]
        refine ih (i + 1) f (by omega) (by omega) (by omega) fun z hz' => ?_
        by_cases e3 : z = i
        · rw [e3]; exact h4
        · exact hz z (by omega)
      · rw [if_neg (fun h => h4 ((nI_eq (by omega) (by omega)).mp h))]
        refine h61 fun e2 => h4 ?_
        subst e2
        rw [gtD (by omega), sl_get]
theorem m_words (hfu : 30000 ≤ fu) {a b : Nat} (hab : a ≤ b) (hb : b ≤ 400) (h255 : ∀ i, T i ≤ 255) (hM : mT T n D) (hne : ∀ i, a ≤ i → i < b → T i ≠ 32) : ∀ (ws : List (List Nat)) (k j f : Nat) (x : Int32), 1 + k + (fw ws).length = 152 → (∀ i, i < (fw ws).length → wl.getD (1 + k + i) 0 = (fw ws).getD i 0) → (ws.all (fun w => w.all (fun c => !(Nat.beq c 32)))) = true → (ws.all (fun w => w.all (fun c => Nat.ble c 255))) = true → (fw ws).length < f → x + nI 1 = nI j → fX12_wordAt_5 sh_L (sh_E kp) fu f 132 (nI a) (nI b) x (nI k) D = some (match wf (sl T a b) ws j with
    | some k => nI k
    | none => mi1, D)
  | [], k, j, f, x, ho, hw, k1, k2, hf, hx => by
    obtain ⟨f, rfl⟩ : ∃ f', f = f' + 1 := ⟨f - 1, by omega⟩
    have : k = 151 := by
      have : (fw []).length = 0 := rfl
      omega
    rw [fX12_wordAt_5, i_151, if_pos (nI_le (by omega) (by omega))]
    rfl
  | w :: ws, k, j, f, x, ho, hw, k1, k2, hf, hx => by
    obtain ⟨f, rfl⟩ : ∃ f', f = f' + 1 := ⟨f - 1, by omega⟩
    have hl : (fw (w :: ws)).length = w.length + 1 + (fw ws).length := by
      simp only [fw, List.length_append, List.length_cons]
      omega
    rw [List.all_cons, Bool.and_eq_true] at k1 k2
    have hA : ∀ i, i < w.length → D 142 (k + 1 + i) = nI (w.getD i 0) ∧ w.getD i 0 ≠ 32 ∧ w.getD i 0 ≤ 255 := by
      intro i hi
      have h1 := hw i (by omega)
      have h2 : (fw (w :: ws)).getD i 0 = w.getD i 0 := by
        simp only [fw, List.getD_eq_getElem?_getD]
        rw [List.getElem?_append_left hi]
      rw [h2] at h1
      have h3 : w.getD i 0 ∈ w := by
        rw [gtD hi]
        exact List.getElem_mem hi
      have h4 := List.all_eq_true.mp k1.1 _ h3
      have h5 := List.all_eq_true.mp k2.1 _ h3
      refine ⟨by rw [hM.2.2 _ (by omega), show k + 1 + i = 1 + k + i by omega, h1], fun e => ?_, Nat.le_of_ble_eq_true h5⟩
      rw [e] at h4
      exact absurd h4 (by decide)
    have h32 : D 142 (k + 1 + w.length) = nI 32 := by
      have h1 := hw w.length (by omega)
      have h2 : (fw (w :: ws)).getD w.length 0 = 32 := by
        simp only [fw, List.getD_eq_getElem?_getD]
        rw [List.getElem?_append_right (Nat.le_refl _), Nat.sub_self]
        rfl
      rw [hM.2.2 _ (by omega), show k + 1 + w.length = 1 + k + w.length by omega, h1, h2]
    rw [fX12_wordAt_5, i_151, if_neg (nI_ge (by omega) (by omega)), i_1, hx, i_0, m_w20 hfu _ hab hb h255 hM.2.1 hne hA h32 (by omega) (b - a) 0 fu (by omega) (by omega) (by omega) (fun z hz => by omega), wf]
    by_cases e : w = sl T a b
    · rw [if_pos e, if_pos e]
    · rw [if_neg e, if_neg e]
      refine m_words hfu hab hb h255 hM hne ws (k + 1 + w.length) (j + 1) _ (nI j) (by omega) (fun i hi => ?_) k1.2 k2.2 (by omega) (addK j 1)
      have h1 := hw (w.length + 1 + i) (by omega)
      have h2 : (fw (w :: ws)).getD (w.length + 1 + i) 0 = (fw ws).getD i 0 := by
        simp only [fw, List.getD_eq_getElem?_getD]
        rw [List.getElem?_append_right (by omega), show w.length + 1 + i - w.length = i + 1 by omega, List.getElem?_cons_succ]
      rw [h2] at h1
      rw [← h1]
      congr 1
      omega
theorem m_word (hfu : 30000 ≤ fu) {a b : Nat} (hab : a ≤ b) (hb : b ≤ 400) (h255 : ∀ i, T i ≤ 255) (hM : mT T n D) (hne : ∀ i, a ≤ i → i < b → T i ≠ 32) : fX12_wordAt sh_L (sh_E kp) fu 132 (nI a) (nI b) D = some (match wf (sl T a b) wds 0 with
    | some k => nI k
    | none => mi1, D) := by
  unfold fX12_wordAt
  exact m_words hfu hab hb h255 hM hne wds 0 0 fu _ (by rw [wds_len]) wds_at wds_ok wds_255 (by rw [wds_len]; omega) (by decide)
/-- letters, then which word -/
theorem m_rd95 (hfu : 30000 ≤ fu) (h255 : ∀ i, T i ≤ 255) (hn : n ≤ 400) {a : Nat} (d : Nat) : ∀ (p f : Nat) (D : ev_D), n - p = d → p ≤ n → d < f → mT T n D → D 132 14 = nI p → D 132 15 = nI a → a ≤ p → (∀ i, a ≤ i → i < p → isL (T i) = true) → ∃ D', fX12_reads_95 sh_L (sh_E kp) fu f 132 D = some (nI 0, D') ∧ D' 132 14 = nI (rF isL T n p) ∧ (∀ k, wf (sl T a (rF isL T n p)) wds 0 = some k → D' 132 17 = nI k ∧ D' 132 16 = nI 2) ∧ (wf (sl T a (rF isL T n p)) wds 0 = none → D' 132 16 = D 132 16) ∧ ex [] [14, 16, 17] D' D := by
  have hend : ∀ (p f : Nat) (D : ev_D), p ≤ n → rF isL T n p = p → mT T n D → D 132 14 = nI p → D 132 15 = nI a → a ≤ p → (∀ i, a ≤ i → i < p → isL (T i) = true) → fX12_isLetter sh_L (sh_E kp) fu 132 (rwv T n p) D = some (nI 0, D) → ∃ D', fX12_reads_95 sh_L (sh_E kp) fu (f + 1) 132 D = some (nI 0, D') ∧ D' 132 14 = nI (rF isL T n p) ∧ (∀ k, wf (sl T a (rF isL T n p)) wds 0 = some k → D' 132 17 = nI k ∧ D' 132 16 = nI 2) ∧ (wf (sl T a (rF isL T n p)) wds 0 = none → D' 132 16 = D 132 16) ∧ ex [] [14, 16, 17] D' D := by
    intro p f D hp hr hM h14 h15 ha hL hl
    rw [fX12_reads_95, h14, m_raw hM hn hp, bdS, hl, bdS, i_0, if_pos rfl, h15, h14, m_word hfu ha (by omega) h255 hM (fun i h1 h2 e => by have := hL i h1 h2; rw [e] at this; exact absurd this (by decide)), bdS, upS, mm1, hr]
    cases e : wf (sl T a p) wds 0 with
    | none =>
      rw [if_pos rfl]
      exact ⟨_, rfl, (by simp (disch := omega) only [upA, neF, eqTn, true_and, false_and, and_false, and_true, and_self, reduceIte]; exact h14), fun k h => (by cases h), fun _ => (by simp (disch := omega) only [upA, neF, eqTn, true_and, false_and, and_false, and_true, and_self, reduceIte]), (by repeat (first | exact ex_rf _ _ _ | refine ex_up ?_ rfl))⟩
    | some k =>
      have hk := (wf_lt _ _ _ _ e).2
      have h27 : wds.length = 27 := by decide
      show ∃ D', (if nI k = mi1 then _ else _) = _ ∧ _
      rw [if_neg (m1N (by omega)), i_2]
      exact ⟨_, rfl, (by simp (disch := omega) only [upA, neF, eqTn, true_and, false_and, and_false, and_true, and_self, reduceIte]; exact h14), fun k' h => (by cases h; exact ⟨by simp (disch := omega) only [upA, neF, eqTn, true_and, false_and, and_false, and_true, and_self, reduceIte], by simp (disch := omega) only [upA, neF, eqTn, true_and, false_and, and_false, and_true, and_self, reduceIte]⟩), fun h => (by cases h), (by repeat (first | exact ex_rf _ _ _ | refine ex_up ?_ rfl))⟩
  induction d with
  | zero =>
    intro p f D hd hp hf hM h14 h15 ha hL
    obtain ⟨f, rfl⟩ : ∃ f', f = f' + 1 := ⟨f - 1, by omega⟩
    refine hend p f D hp (rF_e (by omega)) hM h14 h15 ha hL ?_
    rw [rwv_ge (by omega), m_isL1]
  | succ d ih =>
    intro p f D hd hp hf hM h14 h15 ha hL
    obtain ⟨f, rfl⟩ : ∃ f', f = f' + 1 := ⟨f - 1, by omega⟩
    by_cases hl : isL (T p) = true
    · obtain ⟨D', a1, a2, a3, a4, a5⟩ := ih (p + 1) f (ev_up D 132 14 (nI (p + 1))) (by omega) (by omega) (by omega) (mT_ex (sf := [14]) (by repeat (first | exact ex_rf _ _ _ | refine ex_up ?_ rfl)) rfl hM) (upS _ _ _ _) (by simp (disch := omega) only [upA, neF, eqTn, true_and, false_and, and_false, and_true, and_self, reduceIte]; exact h15) (by omega) (fun i h1 h2 => by
        by_cases e : i = p
        · rw [e]; exact hl
        · exact hL i h1 (by omega))
      have he : ex [] [14, 16, 17] (ev_up D 132 14 (nI (p + 1))) D := by repeat (first | exact ex_rf _ _ _ | refine ex_up ?_ rfl)
      refine ⟨D', ?_, ?_, ?_, ?_, ex_tr he a5⟩
      · rw [fX12_reads_95, h14, m_raw hM hn hp, bdS, rwv_lt (by omega), m_isL (h255 p), bdS, i_0, tg, if_pos hl, h14, i_1, addK]
        exact a1
      · rw [rF_s (by omega) hl]; exact a2
      · rw [rF_s (by omega) hl]; exact a3
      · rw [rF_s (by omega) hl]
        intro h
        rw [a4 h]
        simp (disch := omega) only [upA, neF, eqTn, true_and, false_and, and_false, and_true, and_self, reduceIte]
    · refine hend p f D hp (rF_e (fun z => hl z.2)) hM h14 h15 ha hL ?_
      rw [rwv_lt (by omega), m_isL (h255 p), show isL (T p) = false by simpa using hl]
      rfl
/-- digits -/
theorem m_rd171 (h255 : ∀ i, T i ≤ 255) (hn : n ≤ 400) {a : Nat} (d : Nat) : ∀ (p f v : Nat) (D : ev_D), n - p = d → p ≤ n → d < f → mT T n D → D 132 14 = nI p → D 132 15 = nI a → a ≤ p → D 132 17 = nI v → v < 100000 → (p - a ≤ 4 → v = nmF T a (p - a) ∧ v < 10 ^ (p - a)) → ∃ D', fX12_reads_171 sh_L (sh_E kp) fu f 132 D = some (nI 0, D') ∧ D' 132 14 = nI (rF isG T n p) ∧ (rF isG T n p - a ≤ 4 → D' 132 17 = nI (nmF T a (rF isG T n p - a)) ∧ D' 132 16 = nI 3) ∧ (¬ rF isG T n p - a ≤ 4 → D' 132 16 = D 132 16) ∧ ex [] [14, 16, 17] D' D := by
  have hend : ∀ (p f v : Nat) (D : ev_D), p ≤ n → rF isG T n p = p → mT T n D → D 132 14 = nI p → D 132 15 = nI a → a ≤ p → D 132 17 = nI v → (p - a ≤ 4 → v = nmF T a (p - a) ∧ v < 10 ^ (p - a)) → fX12_isDigit sh_L (sh_E kp) fu 132 (rwv T n p) D = some (nI 0, D) → ∃ D', fX12_reads_171 sh_L (sh_E kp) fu (f + 1) 132 D = some (nI 0, D') ∧ D' 132 14 = nI (rF isG T n p) ∧ (rF isG T n p - a ≤ 4 → D' 132 17 = nI (nmF T a (rF isG T n p - a)) ∧ D' 132 16 = nI 3) ∧ (¬ rF isG T n p - a ≤ 4 → D' 132 16 = D 132 16) ∧ ex [] [14, 16, 17] D' D := by
    intro p f v D hp hr hM h14 h15 ha h17 hv hl
    rw [fX12_reads_171, h14, m_raw hM hn hp, bdS, hl, bdS, i_0, if_pos rfl, h14, h15, pk_sub ha, i_5, hr]
    by_cases h4 : p - a ≤ 4
    · rw [if_neg (nI_ge (by omega) (by omega)), i_3]
      exact ⟨_, rfl, (by simp (disch := omega) only [upA, neF, eqTn, true_and, false_and, and_false, and_true, and_self, reduceIte]; exact h14), fun _ => ⟨(by simp (disch := omega) only [upA, neF, eqTn, true_and, false_and, and_false, and_true, and_self, reduceIte]; rw [h17, (hv h4).1]), (by simp (disch := omega) only [upA, neF, eqTn, true_and, false_and, and_false, and_true, and_self, reduceIte])⟩, fun z => absurd h4 z, (by repeat (first | exact ex_rf _ _ _ | refine ex_up ?_ rfl))⟩
    · rw [if_pos (nI_le (by omega) (by omega))]
      exact ⟨D, rfl, h14, fun z => absurd z h4, fun _ => rfl, ex_rf _ _ _⟩
  induction d with
  | zero =>
    intro p f v D hd hp hf hM h14 h15 ha h17 hv1 hv
    obtain ⟨f, rfl⟩ : ∃ f', f = f' + 1 := ⟨f - 1, by omega⟩
    refine hend p f v D hp (rF_e (by omega)) hM h14 h15 ha h17 hv ?_
    rw [rwv_ge (by omega), m_isG1]
  | succ d ih =>
    intro p f v D hd hp hf hM h14 h15 ha h17 hv1 hv
    obtain ⟨f, rfl⟩ : ∃ f', f = f' + 1 := ⟨f - 1, by omega⟩
    by_cases hl : isG (T p) = true
    · have hdg := of_decide_eq_true hl
      have hrun : ∀ v', v' < 100000 → (p + 1 - a ≤ 4 → v' = nmF T a (p + 1 - a) ∧ v' < 10 ^ (p + 1 - a)) → ∃ D', fX12_reads_223 sh_L (sh_E kp) fu (fX12_reads_171 sh_L (sh_E kp) fu f) 132 132 (nI v') D = some (nI 0, D') ∧ D' 132 14 = nI (rF isG T n p) ∧ (rF isG T n p - a ≤ 4 → D' 132 17 = nI (nmF T a (rF isG T n p - a)) ∧ D' 132 16 = nI 3) ∧ (¬ rF isG T n p - a ≤ 4 → D' 132 16 = D 132 16) ∧ ex [] [14, 16, 17] D' D := by
        intro v' hv' hv2
        obtain ⟨D', a1, a2, a3, a4, a5⟩ := ih (p + 1) f v' (ev_up (ev_up D 132 17 (nI v')) 132 14 (nI (p + 1))) (by omega) (by omega) (by omega) (mT_ex (sf := [14, 17]) (by repeat (first | exact ex_rf _ _ _ | refine ex_up ?_ rfl)) rfl hM) (upS _ _ _ _) (by simp (disch := omega) only [upA, neF, eqTn, true_and, false_and, and_false, and_true, and_self, reduceIte]; exact h15) (by omega) (by simp (disch := omega) only [upA, neF, eqTn, true_and, false_and, and_false, and_true, and_self, reduceIte]) hv' hv2
        have he : ex [] [14, 16, 17] (ev_up (ev_up D 132 17 (nI v')) 132 14 (nI (p + 1))) D := by repeat (first | exact ex_rf _ _ _ | refine ex_up ?_ rfl)
        refine ⟨D', ?_, ?_, ?_, ?_, ex_tr he a5⟩
        · unfold fX12_reads_223
          rw [upJ _ _ _ _ (show (14 : Nat) ≠ 17 by decide), h14, i_1, addK]
          exact a1
        · rw [rF_s (by omega) hl]; exact a2
        · rw [rF_s (by omega) hl]; exact a3
        · rw [rF_s (by omega) hl]
          intro h
          rw [a4 h]
          simp (disch := omega) only [upA, neF, eqTn, true_and, false_and, and_false, and_true, and_self, reduceIte]
      rw [fX12_reads_171, h14, m_raw hM hn hp, bdS, rwv_lt (by omega), m_isG (h255 p), bdS, i_0, tg, if_pos hl, h17, i_10000]
      by_cases h10 : 10000 ≤ v
      · rw [if_pos (nI_le h10 (by omega))]
        refine hrun v hv1 fun h4 => ?_
        have h3 := hv (by omega)
        have : 10 ^ (p - a) ≤ 10 ^ 3 := Nat.pow_le_pow_right (by decide) (by omega)
        omega
      · rw [if_neg (nI_ge (by omega) (by omega)), h14, m_raw hM hn hp, bdS, rwv_lt (by omega), i_10, pk_mul, addK, i_48, pk_sub (by omega)]
        refine hrun _ (by omega) fun h4 => ?_
        obtain ⟨b1, b2⟩ := hv (by omega)
        rw [show p + 1 - a = (p - a) + 1 by omega, nmF, Nat.pow_succ, show a + (p - a) = p by omega, ← b1]
        omega
    · refine hend p f v D hp (rF_e (fun z => hl z.2)) hM h14 h15 ha h17 hv ?_
      rw [rwv_lt (by omega), m_isG (h255 p), show isG (T p) = false by simpa using hl]
      rfl
/-- a token as the reference holds it -/
def tv (k v : Nat) (D : ev_D) : Prop := (k = 0 → D 132 16 = nI 0) ∧ (k = 1 → D 132 16 = nI 1) ∧ (k = 2 → D 132 16 = nI 3 ∧ D 132 17 = nI v) ∧ (256 ≤ k → D 132 16 = nI 2 ∧ D 132 17 = nI (k - 256)) ∧ (3 ≤ k → k < 256 → D 132 16 = nI 4 ∧ D 132 17 = nI k)
theorem m_rd0 (hfu : 30000 ≤ fu) (h255 : ∀ i, T i ≤ 255) (hn : n ≤ 400) (d : Nat) : ∀ (p f : Nat) (D : ev_D), n - p = d → p ≤ n → d < f → mT T n D → D 132 14 = nI p → ∃ D', fX12_reads_0 sh_L (sh_E kp) fu f 132 D = some (nI 0, D') ∧ D' 132 15 = nI (sk T n p) ∧ (sk T n p < n → D' 132 14 = nI (ru T n (sk T n p)) ∧ tv (tkd T n (sk T n p)) (nmF T (sk T n p) (ru T n (sk T n p) - sk T n p)) D') ∧ (¬ sk T n p < n → tv 0 0 D') ∧ ex [] [14, 15, 16, 17] D' D := by
  have hend : ∀ (p f : Nat) (D : ev_D), p ≤ n → sk T n p = p → mT T n D → D 132 14 = nI p → ∃ D', fX12_reads_0 sh_L (sh_E kp) fu (f + 1) 132 D = some (nI 0, D') ∧ D' 132 15 = nI (sk T n p) ∧ (sk T n p < n → D' 132 14 = nI (ru T n (sk T n p)) ∧ tv (tkd T n (sk T n p)) (nmF T (sk T n p) (ru T n (sk T n p) - sk T n p)) D') ∧ (¬ sk T n p < n → tv 0 0 D') ∧ ex [] [14, 15, 16, 17] D' D := by
    intro p f D hp hsk hM h14
    have hM2 : mT T n (ev_up (ev_up D 132 15 (nI p)) 132 16 (nI 1)) := mT_ex (sf := [15, 16]) (by repeat (first | exact ex_rf _ _ _ | refine ex_up ?_ rfl)) rfl hM
    rw [fX12_reads_0, h14, m_raw hM hn hp, bdS, h14, m_raw hM hn hp, bdS, mm1, i_1, i_32, i_10, h14, upJ _ _ _ _ (show (14 : Nat) ≠ 16 by decide), upJ _ _ _ _ (show (14 : Nat) ≠ 15 by decide), h14, m_raw hM2 hn hp, bdS, upJ _ _ _ _ (show (14 : Nat) ≠ 16 by decide), upJ _ _ _ _ (show (14 : Nat) ≠ 15 by decide), h14, hsk]
    by_cases h : p < n
    · have hnb : isK (T p) = false := by rw [← hsk]; exact sk_nb hp (by omega)
      have hnb' := of_decide_eq_false hnb
      have hc := h255 p
      have hM3 : mT T n (ev_up (ev_up (ev_up (ev_up D 132 15 (nI p)) 132 16 (nI 1)) 132 14 (nI (p + 1))) 132 17 (nI (T p))) := mT_ex (sf := [14, 15, 16, 17]) (by repeat (first | exact ex_rf _ _ _ | refine ex_up ?_ rfl)) rfl hM
      rw [rwv_lt h, if_neg (fun e => by rw [nI_eq (by omega) (by omega)] at e; omega), if_neg (fun e => by rw [nI_eq (by omega) (by omega)] at e; omega), if_neg (m1N (by omega)), addK, m_isL hc, bdS, i_0, tg]
      by_cases q1 : isL (T p) = true
      · rw [if_pos q1]
        obtain ⟨D', a1, a2, a3, a4, a5⟩ := m_rd95 (kp := kp) hfu h255 hn (a := p) (n - (p + 1)) (p + 1) fu _ rfl (by omega) (by omega) hM3 (by simp (disch := omega) only [upA, neF, eqTn, true_and, false_and, and_false, and_true, and_self, reduceIte]) (by simp (disch := omega) only [upA, neF, eqTn, true_and, false_and, and_false, and_true, and_self, reduceIte]) (by omega) (fun i h1 h2 => by rw [show i = p by omega]; exact q1)
        have hru : ru T n p = rF isL T n (p + 1) := by unfold ru; rw [if_pos q1]
        have e15 : D' 132 15 = nI p := by rw [ex_f a5 (by decide)]; simp (disch := omega) only [upA, neF, eqTn, true_and, false_and, and_false, and_true, and_self, reduceIte]
        refine ⟨D', a1, e15, fun _ => ⟨by rw [a2, hru], ?_⟩, fun z => absurd h z, ex_tr (D2 := ev_up (ev_up (ev_up (ev_up D 132 15 (nI p)) 132 16 (nI 1)) 132 14 (nI (p + 1))) 132 17 (nI (T p))) (by repeat (first | exact ex_rf _ _ _ | refine ex_up ?_ rfl)) (ex_mo a5 rfl rfl)⟩
        unfold tkd
        rw [if_pos q1, hru]
        cases e : wf (sl T p (rF isL T n (p + 1))) wds 0 with
        | none =>
          have := a4 e
          refine ⟨fun z => (by cases z), fun _ => ?_, fun z => (by cases z), fun z => absurd z (by decide), fun z => absurd z (by decide)⟩
          rw [this]
          simp (disch := omega) only [upA, neF, eqTn, true_and, false_and, and_false, and_true, and_self, reduceIte]
        | some k =>
          obtain ⟨b1, b2⟩ := a3 k e
          refine ⟨fun z => absurd z (by show ¬ 256 + k = 0; omega), fun z => absurd z (by show ¬ 256 + k = 1; omega), fun z => absurd z (by show ¬ 256 + k = 2; omega), fun _ => ⟨b2, ?_⟩, fun _ z => absurd z (by show ¬ 256 + k < 256; omega)⟩
          show D' 132 17 = nI (256 + k - 256)
          rw [b1, Nat.add_sub_cancel_left]
      · rw [if_neg q1, m_isG hc, bdS, tg]
        by_cases q2 : isG (T p) = true
        · have hdg := of_decide_eq_true q2
          rw [if_pos q2, i_48, pk_sub (by omega)]
          obtain ⟨D', a1, a2, a3, a4, a5⟩ := m_rd171 (kp := kp) (fu := fu) h255 hn (a := p) (n - (p + 1)) (p + 1) fu (T p - 48) (ev_up (ev_up (ev_up (ev_up (ev_up D 132 15 (nI p)) 132 16 (nI 1)) 132 14 (nI (p + 1))) 132 17 (nI (T p))) 132 17 (nI (T p - 48))) rfl (by omega) (by omega) (mT_ex (sf := [14, 15, 16, 17]) (by repeat (first | exact ex_rf _ _ _ | refine ex_up ?_ rfl)) rfl hM) (by simp (disch := omega) only [upA, neF, eqTn, true_and, false_and, and_false, and_true, and_self, reduceIte]) (by simp (disch := omega) only [upA, neF, eqTn, true_and, false_and, and_false, and_true, and_self, reduceIte]) (by omega) (by simp (disch := omega) only [upA, neF, eqTn, true_and, false_and, and_false, and_true, and_self, reduceIte]) (by omega) (fun _ => by
            rw [Nat.add_sub_cancel_left, nmF, nmF]
            refine ⟨by rw [Nat.add_zero]; omega, by omega⟩)
          have hru : ru T n p = rF isG T n (p + 1) := by unfold ru; rw [if_neg q1, if_pos q2]
          have e15 : D' 132 15 = nI p := by rw [ex_f a5 (by decide)]; simp (disch := omega) only [upA, neF, eqTn, true_and, false_and, and_false, and_true, and_self, reduceIte]
          refine ⟨D', a1, e15, fun _ => ⟨by rw [a2, hru], ?_⟩, fun z => absurd h z, ex_tr (D2 := ev_up (ev_up (ev_up (ev_up (ev_up D 132 15 (nI p)) 132 16 (nI 1)) 132 14 (nI (p + 1))) 132 17 (nI (T p))) 132 17 (nI (T p - 48))) (by repeat (first | exact ex_rf _ _ _ | refine ex_up ?_ rfl)) (ex_mo a5 rfl rfl)⟩
          unfold tkd
          rw [if_neg q1, if_pos q2, hru]
          by_cases h4 : rF isG T n (p + 1) - p ≤ 4
          · obtain ⟨b1, b2⟩ := a3 h4
            rw [if_pos h4]
            exact ⟨fun z => (by cases z), fun z => (by cases z), fun _ => ⟨b2, b1⟩, fun z => absurd z (by decide), fun z => absurd z (by decide)⟩
          · rw [if_neg h4]
            refine ⟨fun z => (by cases z), fun _ => ?_, fun z => (by cases z), fun z => absurd z (by decide), fun z => absurd z (by decide)⟩
            rw [a4 h4]
            simp (disch := omega) only [upA, neF, eqTn, true_and, false_and, and_false, and_true, and_self, reduceIte]
        · rw [if_neg q2, m_isS hc, bdS, tg]
          have hru : ru T n p = p + 1 := by unfold ru; rw [if_neg q1, if_neg q2]
          unfold tkd
          rw [if_neg q1, if_neg q2, hru]
          by_cases q3 : isS (T p) = true
          · have q3' := mem_iff.mp q3
            simp only [List.mem_cons, List.not_mem_nil, or_false] at q3'
            rw [if_pos q3, if_pos q3, i_4]
            exact ⟨_, rfl, by simp (disch := omega) only [upA, neF, eqTn, true_and, false_and, and_false, and_true, and_self, reduceIte], fun _ => ⟨by simp (disch := omega) only [upA, neF, eqTn, true_and, false_and, and_false, and_true, and_self, reduceIte], fun z => by omega, fun z => by omega, fun z => by omega, fun z => by omega, fun _ _ => ⟨by simp (disch := omega) only [upA, neF, eqTn, true_and, false_and, and_false, and_true, and_self, reduceIte], by simp (disch := omega) only [upA, neF, eqTn, true_and, false_and, and_false, and_true, and_self, reduceIte]⟩⟩, fun z => absurd h z, by repeat (first | exact ex_rf _ _ _ | refine ex_up ?_ rfl)⟩
          · rw [if_neg q3, if_neg q3]
            exact ⟨_, rfl, by simp (disch := omega) only [upA, neF, eqTn, true_and, false_and, and_false, and_true, and_self, reduceIte], fun _ => ⟨by simp (disch := omega) only [upA, neF, eqTn, true_and, false_and, and_false, and_true, and_self, reduceIte], fun z => by omega, fun _ => (by simp (disch := omega) only [upA, neF, eqTn, true_and, false_and, and_false, and_true, and_self, reduceIte]), fun z => by omega, fun z => by omega, fun z => by omega⟩, fun z => absurd h z, by repeat (first | exact ex_rf _ _ _ | refine ex_up ?_ rfl)⟩
    · rw [rwv_ge h, if_neg (by decide), if_neg (by decide), if_pos rfl, i_0]
      exact ⟨_, rfl, by simp (disch := omega) only [upA, neF, eqTn, true_and, false_and, and_false, and_true, and_self, reduceIte], fun z => absurd z h, fun _ => ⟨fun _ => by simp (disch := omega) only [upA, neF, eqTn, true_and, false_and, and_false, and_true, and_self, reduceIte], fun z => by omega, fun z => by omega, fun z => by omega, fun z => by omega⟩, by repeat (first | exact ex_rf _ _ _ | refine ex_up ?_ rfl)⟩
  induction d with
  | zero =>
    intro p f D hd hp hf hM h14
    obtain ⟨f, rfl⟩ : ∃ f', f = f' + 1 := ⟨f - 1, by omega⟩
    exact hend p f D hp (sk_e (by omega)) hM h14
  | succ d ih =>
    intro p f D hd hp hf hM h14
    obtain ⟨f, rfl⟩ : ∃ f', f = f' + 1 := ⟨f - 1, by omega⟩
    by_cases hb : isK (T p) = true
    · have hbl := of_decide_eq_true hb
      have hc := h255 p
      obtain ⟨D', a1, a2, a3, a4, a5⟩ := ih (p + 1) f (ev_up D 132 14 (nI (p + 1))) (by omega) (by omega) (by omega) (mT_ex (sf := [14]) (by repeat (first | exact ex_rf _ _ _ | refine ex_up ?_ rfl)) rfl hM) (upS _ _ _ _)
      have he : ex [] [14, 15, 16, 17] (ev_up D 132 14 (nI (p + 1))) D := by repeat (first | exact ex_rf _ _ _ | refine ex_up ?_ rfl)
      rw [sk_s (by omega) hb]
      refine ⟨D', ?_, a2, a3, a4, ex_tr he a5⟩
      rw [fX12_reads_0, h14, m_raw hM hn hp, bdS, rwv_lt (by omega), i_32, i_10, i_1]
      rcases hbl with e | e
      · rw [e, if_pos rfl, h14, addK]
        exact a1
      · rw [e, if_neg (by decide), h14, m_raw hM hn hp, bdS, rwv_lt (by omega), e, if_pos rfl, h14, addK]
        exact a1
    · exact hend p f D hp (sk_e (fun z => hb z.2)) hM h14
/-- the reference stands at the token i -/
def RS (T : Nat → Nat) (n i : Nat) (D : ev_D) : Prop := D 132 15 = nI (Pq T n i) ∧ (Pq T n i < n → D 132 14 = nI (ru T n (Pq T n i))) ∧ tv (Kq T n i) (Vq T n i) D
theorem tv_0 {k v : Nat} (hk : k = 0) (h : tv 0 0 D) : tv k v D := by
  subst hk
  exact ⟨h.1, fun z => by omega, fun z => by omega, fun z => by omega, fun z => by omega⟩
theorem m_rdAt (hfu : 30000 ≤ fu) (h255 : ∀ i, T i ≤ 255) (hn : n ≤ 400) {p i : Nat} (hp : p ≤ n) (hM : mT T n D) (h14 : D 132 14 = nI p) (hi : Pq T n i = sk T n p) : ∃ D', fX12_reads sh_L (sh_E kp) fu 132 D = some (nI 0, D') ∧ RS T n i D' ∧ ex [] [14, 15, 16, 17] D' D := by
  obtain ⟨D', a1, a2, a3, a4, a5⟩ := m_rd0 (kp := kp) hfu h255 hn (n - p) p fu D rfl hp (by omega) hM h14
  refine ⟨D', a1, ⟨by rw [hi]; exact a2, fun h => ?_, ?_⟩, a5⟩
  · rw [hi] at h ⊢
    exact (a3 h).1
  · by_cases h : Pq T n i < n
    · unfold Kq Vq
      rw [if_pos h, hi]
      rw [hi] at h
      exact (a3 h).2
    · refine tv_0 (Kq_0.mpr h) (a4 (by rw [← hi]; exact h))
theorem m_next (hfu : 30000 ≤ fu) (h255 : ∀ i, T i ≤ 255) (hn : n ≤ 400) {i : Nat} (hM : mT T n D) (h : RS T n i D) (hi : Kq T n i ≠ 0) : ∃ D', fX12_reads sh_L (sh_E kp) fu 132 D = some (nI 0, D') ∧ RS T n (i + 1) D' ∧ mT T n D' ∧ ex [] [14, 15, 16, 17] D' D := by
  have hP : Pq T n i < n := by
    by_cases z : Pq T n i < n
    · exact z
    · exact absurd (Kq_0.mpr z) hi
  obtain ⟨D', a1, a2, a3⟩ := m_rdAt (kp := kp) (p := ru T n (Pq T n i)) (i := i + 1) hfu h255 hn (ru_le hP) hM (h.2.1 hP) (by rw [Pq, if_pos hP])
  exact ⟨D', a1, a2, mT_ex a3 rfl hM, a3⟩
theorem m_isW {k v w : Nat} (h : tv k v D) (hk : k < 283) (hw : w < 27) : fX12_isWord L E fu 132 (nI w) D = some (nI (decide (k = 256 + w)).toNat, D) := by
  obtain ⟨h0, h1, h2, h3, h4⟩ := h
  unfold fX12_isWord
  rw [i_2, i_1, i_0]
  by_cases k3 : 256 ≤ k
  · rw [(h3 k3).1, if_pos rfl, (h3 k3).2]
    by_cases e : k = 256 + w
    · rw [if_pos (by rw [e, Nat.add_sub_cancel_left]), decide_eq_true e]; rfl
    · rw [if_neg (fun z => by rw [nI_eq (by omega) (by omega)] at z; omega), decide_eq_false e]; rfl
  · rw [decide_eq_false (by omega)]
    by_cases k0 : k = 0
    · rw [h0 k0, if_neg (by decide)]; rfl
    by_cases k1 : k = 1
    · rw [h1 k1, if_neg (by decide)]; rfl
    by_cases k2 : k = 2
    · rw [(h2 k2).1, if_neg (by decide)]; rfl
    · rw [(h4 (by omega) (by omega)).1, if_neg (by decide)]; rfl
theorem m_isC {k v w : Nat} (h : tv k v D) (hk : k < 283) (hw : 3 ≤ w) (hw2 : w < 256) : fX12_isSign L E fu 132 (nI w) D = some (nI (decide (k = w)).toNat, D) := by
  obtain ⟨h0, h1, h2, h3, h4⟩ := h
  unfold fX12_isSign
  rw [i_4, i_1, i_0]
  by_cases k3 : 256 ≤ k
  · rw [decide_eq_false (by omega), (h3 k3).1, if_neg (by decide)]; rfl
  by_cases k0 : k = 0
  · rw [decide_eq_false (by omega), h0 k0, if_neg (by decide)]; rfl
  by_cases k1 : k = 1
  · rw [decide_eq_false (by omega), h1 k1, if_neg (by decide)]; rfl
  by_cases k2 : k = 2
  · rw [decide_eq_false (by omega), (h2 k2).1, if_neg (by decide)]; rfl
  rw [(h4 (by omega) (by omega)).1, if_pos rfl, (h4 (by omega) (by omega)).2]
  by_cases e : k = w
  · rw [if_pos (by rw [e]), decide_eq_true e]; rfl
  · rw [if_neg (fun z => by rw [nI_eq (by omega) (by omega)] at z; omega), decide_eq_false e]; rfl
theorem m_t {k v : Nat} (h : tv k v D) : D 132 16 = nI (if k = 0 then 0 else if k = 1 then 1 else if k = 2 then 3 else if k < 256 then 4 else 2) := by
  obtain ⟨h0, h1, h2, h3, h4⟩ := h
  by_cases k0 : k = 0
  · rw [if_pos k0]; exact h0 k0
  rw [if_neg k0]
  by_cases k1 : k = 1
  · rw [if_pos k1]; exact h1 k1
  rw [if_neg k1]
  by_cases k2 : k = 2
  · rw [if_pos k2]; exact (h2 k2).1
  rw [if_neg k2]
  by_cases k3 : k < 256
  · rw [if_pos k3]; exact (h4 (by omega) k3).1
  · rw [if_neg k3]; exact (h3 (by omega)).1
theorem m_tb (k : Nat) : (if k = 0 then 0 else if k = 1 then 1 else if k = 2 then 3 else if k < 256 then 4 else 2) < 2 ^ 31 := by
  split
  · decide
  split
  · decide
  split
  · decide
  split
  · decide
  · decide
theorem m_t3 {k v : Nat} (h : tv k v D) : (D 132 16 = nI 3) ↔ k = 2 := by
  rw [m_t h, nI_eq (m_tb k) (by decide)]
  constructor
  · intro z
    repeat' split at z
    all_goals omega
  · intro z
    rw [z]; rfl
theorem m_t2 {k v : Nat} (h : tv k v D) : (D 132 16 = nI 2) ↔ 256 ≤ k := by
  rw [m_t h, nI_eq (m_tb k) (by decide)]
  constructor
  · intro z
    repeat' split at z
    all_goals omega
  · intro z
    rw [if_neg (by omega), if_neg (by omega), if_neg (by omega), if_neg (by omega)]
theorem m_t0 {k v : Nat} (h : tv k v D) : (D 132 16 = nI 0) ↔ k = 0 := by
  rw [m_t h, nI_eq (m_tb k) (by decide)]
  constructor
  · intro z
    repeat' split at z
    all_goals omega
  · intro z
    rw [if_pos z]
end Reads
