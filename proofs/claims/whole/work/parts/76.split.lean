/-! ===== text: the class splits the tape ===== -/
theorem tg {b : Bool} {x y : ev_Op} : (if nI b.toNat = nI 0 then x else y) = if b = true then y else x := by
  cases b
  · exact (if_pos (show nI false.toNat = nI 0 from rfl)).trans (if_neg (by decide)).symm
  · exact (if_neg (show ¬ nI true.toNat = nI 0 by decide)).trans (if_pos rfl).symm
theorem m1N {n : Nat} (h : n < 2 ^ 31) : ¬ nI n = mi1 := m1_n h
theorem gtD {l : List Nat} {i : Nat} (h : i < l.length) : l.getD i 0 = l[i] := by
  rw [List.getD_eq_getElem?_getD, List.getElem?_eq_getElem h]
  rfl
section Split
variable {L : Nat → Nat} {E : Nat → Nat → Nat} {fu kp n : Nat} {T : Nat → Nat} {D : ev_D}
theorem c_isL {c : Nat} (h : c ≤ 255) : fX4_isLetter L E fu (nI c) D = some (nI (isL c).toNat, D) := by
  unfold fX4_isLetter fX4_isLetter_12 isL
  simp (disch := omega) only [i_97, i_122, i_65, i_90, i_1, i_0, nI_ltI, nI_leI]
  repeat' split
  all_goals first
    | (rw [decide_eq_true (by omega)]; rfl)
    | (rw [decide_eq_false (by omega)]; rfl)
theorem c_isG {c : Nat} (h : c ≤ 255) : fX4_isDigit L E fu (nI c) D = some (nI (isG c).toNat, D) := by
  unfold fX4_isDigit isG
  simp (disch := omega) only [i_48, i_57, i_1, i_0, nI_ltI]
  repeat' split
  all_goals first
    | (rw [decide_eq_true (by omega)]; rfl)
    | (rw [decide_eq_false (by omega)]; rfl)
theorem c_isK {c : Nat} (h : c ≤ 255) : fX4_isBlank L E fu (nI c) D = some (nI (isK c).toNat, D) := by
  unfold fX4_isBlank isK
  simp (disch := omega) only [i_32, i_10, i_1, i_0, nI_eq]
  repeat' split
  all_goals first
    | (rw [decide_eq_true (by omega)]; rfl)
    | (rw [decide_eq_false (by omega)]; rfl)
theorem c_runL (h255 : ∀ i, T i ≤ 255) (hT : ∀ i, i < 400 → D 106 i = nI (T i)) (hn : n ≤ 400) (h1 : D 91 1 = nI n) (d : Nat) : ∀ p f, n - p = d → p ≤ n → d < f → fX4_runFrom_32 sh_L (sh_E kp) fu f 91 (nI p) (nI 1) D = some (nI (rF isL T n p), D) := by
  induction d with
  | zero =>
    intro p f hd hp hf
    obtain ⟨f, rfl⟩ : ∃ f', f = f' + 1 := ⟨f - 1, by omega⟩
    rw [fX4_runFrom_32, h1, if_pos (nI_le (by omega) (by omega)), rF_e (by omega)]
  | succ d ih =>
    intro p f hd hp hf
    obtain ⟨f, rfl⟩ : ∃ f', f = f' + 1 := ⟨f - 1, by omega⟩
    rw [fX4_runFrom_32, h1, if_neg (nI_ge (by omega) (by omega)), i_0, if_neg (show ¬ nI 1 = nI 0 by decide), e_91_4, l_106, gdI (by omega) (by omega), nI_clamp (by omega), hT p (by omega), c_isL (h255 p), bdS, tg]
    by_cases q : isL (T p) = true
    · rw [if_pos q, i_1, addK, ih (p + 1) f (by omega) (by omega) (by omega), rF_s (P := isL) (by omega) q]
    · rw [if_neg q, rF_e (fun z => q z.2)]
theorem c_runG (h255 : ∀ i, T i ≤ 255) (hT : ∀ i, i < 400 → D 106 i = nI (T i)) (hn : n ≤ 400) (h1 : D 91 1 = nI n) (d : Nat) : ∀ p f, n - p = d → p ≤ n → d < f → fX4_runFrom_32 sh_L (sh_E kp) fu f 91 (nI p) (nI 0) D = some (nI (rF isG T n p), D) := by
  induction d with
  | zero =>
    intro p f hd hp hf
    obtain ⟨f, rfl⟩ : ∃ f', f = f' + 1 := ⟨f - 1, by omega⟩
    rw [fX4_runFrom_32, h1, if_pos (nI_le (by omega) (by omega)), rF_e (by omega)]
  | succ d ih =>
    intro p f hd hp hf
    obtain ⟨f, rfl⟩ : ∃ f', f = f' + 1 := ⟨f - 1, by omega⟩
    rw [fX4_runFrom_32, h1, if_neg (nI_ge (by omega) (by omega)), i_0, if_pos rfl, e_91_4, l_106, gdI (by omega) (by omega), nI_clamp (by omega), hT p (by omega), c_isG (h255 p), bdS, tg]
    by_cases q : isG (T p) = true
    · rw [if_pos q, i_1, addK, ih (p + 1) f (by omega) (by omega) (by omega), rF_s (P := isG) (by omega) q]
    · rw [if_neg q, rF_e (fun z => q z.2)]
theorem c_run (hfu : 30000 ≤ fu) (h255 : ∀ i, T i ≤ 255) (hT : ∀ i, i < 400 → D 106 i = nI (T i)) (hn : n ≤ 400) (h1 : D 91 1 = nI n) {p : Nat} (hp : p < n) : fX4_runFrom sh_L (sh_E kp) fu 91 (nI p) D = some (nI (ru T n p), D) := by
  unfold fX4_runFrom
  rw [e_91_4, l_106, gdI (by omega) (by omega), nI_clamp (by omega), hT p (by omega), c_isL (h255 p), bdS, i_0, tg]
  unfold ru
  by_cases q : isL (T p) = true
  · rw [if_pos q, if_pos q, q, i_1, addK]
    exact c_runL h255 hT hn h1 _ (p + 1) fu rfl (by omega) (by omega)
  · rw [if_neg q, if_neg q, gdI (by omega) (by omega), hT p (by omega), c_isG (h255 p), bdS, tg]
    by_cases q2 : isG (T p) = true
    · rw [if_pos q2, if_pos q2, show isL (T p) = false by simpa using q, i_1, addK]
      exact c_runG h255 hT hn h1 _ (p + 1) fu rfl (by omega) (by omega)
    · rw [if_neg q2, if_neg q2, i_1, addK]
/-- a number: its digits one by one -/
theorem c_num16 (hT : ∀ i, i < 400 → T i ≤ 57 → 48 ≤ T i → True) {p u : Nat} (hu : u ≤ 400) (k : Nat) : ∀ (j f : Nat) (D : ev_D), p + j + k = u → k < f → (∀ i, p ≤ i → i < u → D 106 i = nI (T i) ∧ 48 ≤ T i) → D 91 10 = nI (nmF T p j) → ∃ D', fX4_numberKind_16 sh_L (sh_E kp) fu f 91 (nI u) (nI (p + j)) D = some (nI 2, D') ∧ D' 91 10 = nI (nmF T p (j + k)) ∧ ∀ q i, ¬ (q = 91 ∧ i = 10) → D' q i = D q i := by
  induction k with
  | zero =>
    intro j f D hj hf hD h10
    obtain ⟨f, rfl⟩ : ∃ f', f = f' + 1 := ⟨f - 1, by omega⟩
    exact ⟨D, by rw [fX4_numberKind_16, if_pos (nI_le (by omega) (by omega))]; rfl, h10, fun _ _ _ => rfl⟩
  | succ k ih =>
    intro j f D hj hf hD h10
    obtain ⟨f, rfl⟩ : ∃ f', f = f' + 1 := ⟨f - 1, by omega⟩
    obtain ⟨e, h48⟩ := hD (p + j) (by omega) (by omega)
    have ev : nI (nmF T p j) * nI 10 + nI (T (p + j)) - nI 48 = nI (nmF T p (j + 1)) := by
      rw [pk_mul, addK, pk_sub (by omega), nmF]
      congr 1
      omega
    obtain ⟨D', a1, a2, a3⟩ := ih (j + 1) f (ev_up D 91 10 (nI (nmF T p (j + 1)))) (by omega) (by omega) (fun i h1 h2 => by rw [upN _ _ _ _ (by decide)]; exact hD i h1 h2) (upS _ _ _ _)
    refine ⟨D', ?_, by rw [a2, show j + 1 + k = j + (k + 1) by omega], fun q i h => by rw [a3 q i h, upA, if_neg h]⟩
    rw [fX4_numberKind_16, if_neg (nI_ge (by omega) (by omega)), e_91_4, l_106, gdI (by omega) (by omega), nI_clamp (by omega), e, h10, i_10, i_48, ev, i_1, addK]
    exact a1
theorem c_num (hfu : 30000 ≤ fu) {p u : Nat} (hpu : p ≤ u) (hu : u ≤ 400) (hD : ∀ i, p ≤ i → i < u → D 106 i = nI (T i) ∧ 48 ≤ T i) : ∃ D', fX4_numberKind sh_L (sh_E kp) fu 91 (nI p) (nI u) D = some (nI (if u - p ≤ 4 then 2 else 1), D') ∧ (u - p ≤ 4 → D' 91 10 = nI (nmF T p (u - p))) ∧ ∀ q i, ¬ (q = 91 ∧ i = 10) → D' q i = D q i := by
  unfold fX4_numberKind
  rw [pk_sub hpu, i_4]
  by_cases h : u - p ≤ 4
  · rw [if_pos (nI_le h (by omega)), if_pos h]
    obtain ⟨D', a1, a2, a3⟩ := c_num16 (kp := kp) (fu := fu) (T := T) (fun _ _ _ _ => trivial) hu (u - p) 0 fu (ev_up D 91 10 (nI 0)) (p := p) (by omega) (by omega) (fun i h1 h2 => by rw [upN _ _ _ _ (by decide)]; exact hD i h1 h2) (upS _ _ _ _)
    exact ⟨D', a1, fun _ => by rw [a2, Nat.zero_add], fun q i h => by rw [a3 q i h, upA, if_neg h]⟩
  · rw [if_neg (nI_ge (by omega) (by omega)), if_neg h]
    exact ⟨D, rfl, fun z => absurd z h, fun _ _ _ => rfl⟩
/-! a word: which it is -/
theorem ch_wl : ∀ i, i < 151 → es_ch (nI i) = nI (wl.getD (i + 1) 0) := by decide +kernel
theorem c_word1 {a b o j : Nat} {w : List Nat} (hab : a ≤ b) (hb : b ≤ 400) (hw : ∀ i, i < w.length → es_ch (nI (o + i)) = nI (w.getD i 0) ∧ w.getD i 0 ≠ 32 ∧ w.getD i 0 ≤ 255) (h32 : es_ch (nI (o + w.length)) = nI 32) (ho : o + w.length < 151) (h255 : ∀ i, T i ≤ 255) (hT : ∀ i, i < 400 → D 106 i = nI (T i)) (r : Nat) : ∀ (m f : Nat) (al : Int32), m + r = w.length → r < f → ((m ≤ b - a ∧ ∀ i, i < m → w.getD i 0 = T (a + i)) ∧ al = nI m) ∨ (¬ (m ≤ b - a ∧ ∀ i, i < m → w.getD i 0 = T (a + i)) ∧ al = mi1) → fX4_wordKind_8 sh_L (sh_E kp) fu f 91 (nI a) (nI b) (nI j) al (nI (o + m)) D = if w = sl T a b then some (nI (256 + j), D) else fX4_wordKind_8 sh_L (sh_E kp) fu (f - r - 1) 91 (nI a) (nI b) (nI (j + 1)) (nI 0) (nI (o + w.length + 1)) D := by
  induction r with
  | zero =>
    intro m f al hm hf hal
    obtain ⟨f, rfl⟩ : ∃ f', f = f' + 1 := ⟨f - 1, by omega⟩
    have hm' : m = w.length := by omega
    subst hm'
    rw [fX4_wordKind_8, i_151, if_neg (nI_ge (by omega) (by omega)), gdI (by omega) (by omega), h32, i_32, if_pos rfl, pk_sub hab, i_256, addK, i_1, addK, addK, i_0]
    by_cases e : w = sl T a b
    · rw [if_pos e]
      have hl : w.length = b - a := by rw [e, sl_len]
      rcases hal with ⟨h1, h2⟩ | ⟨h1, h2⟩
      · rw [h2, hl, if_pos rfl]
      · refine absurd ⟨by omega, fun i hi => ?_⟩ h1
        subst e
        rw [gtD hi, sl_get]
    · rw [if_neg e, if_neg]
      · rfl
      · intro h3
        rcases hal with ⟨h1, h2⟩ | ⟨h1, h2⟩
        · rw [h2, nI_eq (by omega) (by omega)] at h3
          apply e
          apply List.ext_getElem (by rw [sl_len]; exact h3)
          intro i q1 q2
          rw [sl_get, ← h1.2 i q1, gtD q1]
        · rw [h2] at h3
          exact m1_n (by omega) h3.symm
  | succ r ih =>
    intro m f al hm hf hal
    obtain ⟨f, rfl⟩ : ∃ f', f = f' + 1 := ⟨f - 1, by omega⟩
    obtain ⟨w1, w2, w3⟩ := hw m (by omega)
    have hgo : ∀ al', (((m + 1) ≤ b - a ∧ ∀ i, i < m + 1 → w.getD i 0 = T (a + i)) ∧ al' = nI (m + 1)) ∨ (¬ ((m + 1) ≤ b - a ∧ ∀ i, i < m + 1 → w.getD i 0 = T (a + i)) ∧ al' = mi1) → fX4_wordKind_8 sh_L (sh_E kp) fu f 91 (nI a) (nI b) (nI j) al' (nI (o + m + 1)) D = if w = sl T a b then some (nI (256 + j), D) else fX4_wordKind_8 sh_L (sh_E kp) fu (f + 1 - (r + 1) - 1) 91 (nI a) (nI b) (nI (j + 1)) (nI 0) (nI (o + w.length + 1)) D := by
      intro al' h
      have := ih (m + 1) f al' (by omega) (by omega) h
      rw [show f + 1 - (r + 1) - 1 = f - r - 1 by omega]
      exact this
    rw [fX4_wordKind_8, i_151, if_neg (nI_ge (by omega) (by omega)), gdI (by omega) (by omega), w1, i_32, if_neg (fun h => w2 ((nI_eq (by omega) (by omega)).mp h)), mm1, i_1, addK (o + m)]
    rcases hal with ⟨h1, h2⟩ | ⟨h1, h2⟩
    · rw [h2, if_neg (m1N (by omega)), addK]
      by_cases h3 : b ≤ a + m
      · rw [if_pos (nI_le h3 (by omega))]
        exact hgo _ (.inr ⟨fun z => by omega, rfl⟩)
      · rw [if_neg (nI_ge (by omega) (by omega)), e_91_4, l_106, gdI (by omega) (by omega), nI_clamp (by omega), hT (a + m) (by omega)]
        have h255m := h255 (a + m)
        by_cases h4 : T (a + m) = w.getD m 0
        · rw [if_pos (by rw [h4]), addK]
          refine hgo _ (.inl ⟨⟨by omega, fun i hi => ?_⟩, rfl⟩)
          by_cases e : i = m
          · rw [e]; exact h4.symm
          · exact h1.2 i (by omega)
        · rw [if_neg (fun h => h4 ((nI_eq (by omega) (by omega)).mp h))]
          exact hgo _ (.inr ⟨fun z => h4 (z.2 m (by omega)).symm, rfl⟩)
    · rw [h2, if_pos rfl]
      exact hgo _ (.inr ⟨fun z => h1 ⟨by omega, fun i hi => z.2 i (by omega)⟩, rfl⟩)
theorem c_words {a b : Nat} (hab : a ≤ b) (hb : b ≤ 400) (h255 : ∀ i, T i ≤ 255) (hT : ∀ i, i < 400 → D 106 i = nI (T i)) : ∀ (ws : List (List Nat)) (o j f : Nat), 1 + o + (fw ws).length = 152 → (∀ i, i < (fw ws).length → wl.getD (1 + o + i) 0 = (fw ws).getD i 0) → (ws.all (fun w => w.all (fun c => !(Nat.beq c 32)))) = true → (ws.all (fun w => w.all (fun c => Nat.ble c 255))) = true → (fw ws).length < f → fX4_wordKind_8 sh_L (sh_E kp) fu f 91 (nI a) (nI b) (nI j) (nI 0) (nI o) D = some (nI (match wf (sl T a b) ws j with
    | some k => 256 + k
    | none => 1), D)
  | [], o, j, f, ho, hw, k1, k2, hf => by
    obtain ⟨f, rfl⟩ : ∃ f', f = f' + 1 := ⟨f - 1, by omega⟩
    have : o = 151 := by
      have : (fw []).length = 0 := rfl
      omega
    rw [fX4_wordKind_8, i_151, if_pos (nI_le (by omega) (by omega))]
    rfl
  | w :: ws, o, j, f, ho, hw, k1, k2, hf => by
    have hl : (fw (w :: ws)).length = w.length + 1 + (fw ws).length := by
      simp only [fw, List.length_append, List.length_cons]
      omega
    rw [List.all_cons, Bool.and_eq_true] at k1 k2
    have hA : ∀ i, i < w.length → es_ch (nI (o + i)) = nI (w.getD i 0) ∧ w.getD i 0 ≠ 32 ∧ w.getD i 0 ≤ 255 := by
      intro i hi
      have h1 := hw i (by omega)
      have h2 : (fw (w :: ws)).getD i 0 = w.getD i 0 := by
        simp only [fw, List.getD_eq_getElem?_getD]
        rw [List.getElem?_append_left hi]
      rw [h2] at h1
      have h3 : w.getD i 0 ∈ w := by
        rw [gtD hi]
        exact List.getElem_mem hi
      have h4 := List.all_eq_true.mp k1.1 _ h3
      have h5 := List.all_eq_true.mp k2.1 _ h3
      refine ⟨by rw [ch_wl _ (by omega), show o + i + 1 = 1 + o + i by omega, h1], fun e => ?_, Nat.le_of_ble_eq_true h5⟩
      rw [e] at h4
      exact absurd h4 (by decide)
    have h32 : es_ch (nI (o + w.length)) = nI 32 := by
      have h1 := hw w.length (by omega)
      have h2 : (fw (w :: ws)).getD w.length 0 = 32 := by
        simp only [fw, List.getD_eq_getElem?_getD]
        rw [List.getElem?_append_right (Nat.le_refl _), Nat.sub_self]
        rfl
      rw [ch_wl _ (by omega), show o + w.length + 1 = 1 + o + w.length by omega, h1, h2]
    have := c_word1 (kp := kp) (fu := fu) (j := j) (T := T) (D := D) hab hb hA h32 (by omega) h255 hT w.length 0 f (nI 0) (by omega) (by omega) (.inl ⟨⟨by omega, fun i hi => by omega⟩, rfl⟩)
    rw [Nat.add_zero] at this
    rw [this, wf]
    by_cases e : w = sl T a b
    · rw [if_pos e, if_pos e]
    · rw [if_neg e, if_neg e]
      refine c_words hab hb h255 hT ws (o + w.length + 1) (j + 1) _ (by omega) (fun i hi => ?_) k1.2 k2.2 (by omega)
      have h1 := hw (w.length + 1 + i) (by omega)
      have h2 : (fw (w :: ws)).getD (w.length + 1 + i) 0 = (fw ws).getD i 0 := by
        simp only [fw, List.getD_eq_getElem?_getD]
        rw [List.getElem?_append_right (by omega), show w.length + 1 + i - w.length = i + 1 by omega, List.getElem?_cons_succ]
      rw [h2] at h1
      rw [← h1]
      congr 1
      omega
theorem wds_255 : wds.all (fun w => w.all (fun c => Nat.ble c 255)) = true := by decide +kernel
theorem wds_at : ∀ i, i < (fw wds).length → wl.getD (1 + 0 + i) 0 = (fw wds).getD i 0 := by
  intro i _
  rw [wl_fw, show 1 + 0 + i = i + 1 by omega, List.getD_cons_succ]
theorem wds_len : (fw wds).length = 151 := by decide +kernel
theorem c_wordK (hfu : 30000 ≤ fu) {a b : Nat} (hab : a ≤ b) (hb : b ≤ 400) (h255 : ∀ i, T i ≤ 255) (hT : ∀ i, i < 400 → D 106 i = nI (T i)) : fX4_wordKind sh_L (sh_E kp) fu 91 (nI a) (nI b) D = some (nI (match wf (sl T a b) wds 0 with
    | some k => 256 + k
    | none => 1), D) := by
  unfold fX4_wordKind
  exact c_words hab hb h255 hT wds 0 0 fu (by rw [wds_len]) wds_at wds_ok wds_255 (by rw [wds_len]; omega)
theorem ixS : ∀ c, c < 256 → decide (es_ixc 1 ((nI c).toUInt32 % 65536).toInt32 < nI 0) = !(isS c) := by decide +kernel
theorem c_tok (hfu : 30000 ≤ fu) (h255 : ∀ i, T i ≤ 255) (hT : ∀ i, i < 400 → D 106 i = nI (T i)) (hn : n ≤ 400) {p : Nat} (hp : p < n) : ∃ D', fX4_tokenKind sh_L (sh_E kp) fu 91 (nI p) (nI (ru T n p)) D = some (nI (tkd T n p), D') ∧ (tkd T n p = 2 → D' 91 10 = nI (nmF T p (ru T n p - p))) ∧ ∀ q i, ¬ (q = 91 ∧ i = 10) → D' q i = D q i := by
  have hr1 := ru_gt (T := T) hp
  have hr2 := ru_le (T := T) hp
  unfold fX4_tokenKind tkd
  rw [e_91_4, l_106, gdI (by omega) (by omega), nI_clamp (by omega), hT p (by omega), c_isL (h255 p), bdS, i_0, tg]
  by_cases q : isL (T p) = true
  · rw [if_pos q, if_pos q, c_wordK hfu (by omega) (by omega) h255 hT, bdS]
    refine ⟨D, rfl, fun h => ?_, fun _ _ _ => rfl⟩
    split at h <;> omega
  · rw [if_neg q, if_neg q, c_isG (h255 p), bdS, tg]
    by_cases q2 : isG (T p) = true
    · rw [if_pos q2, if_pos q2]
      obtain ⟨D', a1, a2, a3⟩ := c_num (kp := kp) (T := T) (D := D) hfu (p := p) (u := ru T n p) (by omega) (by omega) (fun i h1 h2 => ⟨hT i (by omega), by
        have hr : ru T n p = rF isG T n (p + 1) := by unfold ru; rw [if_neg q, if_pos q2]
        have hg : isG (T i) = true := by
          by_cases e : i = p
          · rw [e]; exact q2
          · exact rF_in (P := isG) (p := p + 1) (n := n) (q := i) (by omega) (by omega) (by omega)
        exact (of_decide_eq_true hg).1⟩)
      refine ⟨D', by rw [a1, bdS], fun h => a2 ?_, a3⟩
      by_cases h4 : ru T n p - p ≤ 4
      · exact h4
      · rw [if_neg h4] at h; omega
    · rw [if_neg q2, if_neg q2]
      have hx := ixS (T p) (by have := h255 p; omega)
      by_cases q3 : isS (T p) = true
      · rw [q3] at hx
        rw [if_pos q3, if_neg (of_decide_eq_false hx)]
        refine ⟨D, rfl, fun h => ?_, fun _ _ _ => rfl⟩
        have := mem_iff.mp q3
        rw [h] at this
        simp at this
      · rw [show isS (T p) = false by simpa using q3] at hx
        rw [if_neg q3, if_pos (of_decide_eq_true hx)]
        exact ⟨D, rfl, fun h => by omega, fun _ _ _ => rfl⟩
theorem c_addT {i : Nat} (a b : Int32) (hi : i ≤ 400) (h8 : D 91 8 = nI i) : fX4_addToken sh_L (sh_E kp) fu 91 a b D = some (nI 0, ev_up (ev_up (ev_up (ev_up D 107 i a) 108 i (D 91 10)) 109 i b) 91 8 (nI (i + 1))) := by
  unfold fX4_addToken fX4_addToken_45
  simp only [e_91_5, e_91_6, e_91_7, l_107, l_108, l_109, ofN, upN _ _ _ _ (show (91 : Nat) ≠ 107 by decide), upN _ _ _ _ (show (91 : Nat) ≠ 108 by decide), upN _ _ _ _ (show (91 : Nat) ≠ 109 by decide), h8]
  rw [if_neg (nI_ge (by omega) (by omega)), gdI (by omega) (by omega), gdI (by omega) (by omega), gdI (by omega) (by omega), nI_clamp (by omega), i_1, addK, i_0]
/-- so far split: i tokens -/
def sI (T : Nat → Nat) (n : Nat) (D0 : ev_D) (i : Nat) (D : ev_D) : Prop := D 91 8 = nI i ∧ (∀ j, j < i → D 107 j = nI (Kq T n j) ∧ D 109 j = nI (Pq T n j) ∧ (Kq T n j = 2 → D 108 j = nI (Vq T n j))) ∧ (∀ q j, q ≠ 107 → q ≠ 108 → q ≠ 109 → ¬ (q = 91 ∧ (j = 8 ∨ j = 10)) → D q j = D0 q j)
theorem sI_add {D0 : ev_D} {i : Nat} (h : sI T n D0 i D) {D2 : ev_D} (h2 : ∀ q i, ¬ (q = 91 ∧ i = 10) → D2 q i = D q i) (hv : Kq T n i = 2 → D2 91 10 = nI (Vq T n i)) : sI T n D0 (i + 1) (ev_up (ev_up (ev_up (ev_up D2 107 i (nI (Kq T n i))) 108 i (D2 91 10)) 109 i (nI (Pq T n i))) 91 8 (nI (i + 1))) := by
  obtain ⟨a1, a2, a3⟩ := h
  refine ⟨upS _ _ _ _, fun j hj => ?_, fun q j h1 h3 h4 h5 => ?_⟩
  · by_cases e : j = i
    · subst e
      refine ⟨by simp (disch := omega) only [upA, neF, eqTn, true_and, false_and, and_false, and_true, and_self, reduceIte], by simp (disch := omega) only [upA, neF, eqTn, true_and, false_and, and_false, and_true, and_self, reduceIte], fun z => ?_⟩
      simp (disch := omega) only [upA, neF, eqTn, true_and, false_and, and_false, and_true, and_self, reduceIte]
      exact hv z
    · obtain ⟨b1, b2, b3⟩ := a2 j (by omega)
      refine ⟨?_, ?_, fun z => ?_⟩
      · simp (disch := omega) only [upA, neF, eqTn, true_and, false_and, and_false, and_true, and_self, reduceIte]
        rw [h2 _ _ (by omega), b1]
      · simp (disch := omega) only [upA, neF, eqTn, true_and, false_and, and_false, and_true, and_self, reduceIte]
        rw [h2 _ _ (by omega), b2]
      · simp (disch := omega) only [upA, neF, eqTn, true_and, false_and, and_false, and_true, and_self, reduceIte]
        rw [h2 _ _ (by omega), b3 z]
  · rw [upA, if_neg (by omega), upN _ _ _ _ h4, upN _ _ _ _ h3, upN _ _ _ _ h1, h2 _ _ (by omega)]
    exact a3 q j h1 h3 h4 h5
theorem c_split14 (hfu : 30000 ≤ fu) (h255 : ∀ i, T i ≤ 255) {D0 : ev_D} (hT : ∀ i, i < 400 → D0 106 i = nI (T i)) (hn : n ≤ 400) (h1 : D0 91 1 = nI n) (N : Nat) : ∀ (p l i f : Nat) (D : ev_D), n - p ≤ N → p ≤ n → l ≤ p → i ≤ p → sk T n p = Pq T n i → sI T n D0 i D → (∀ j, j < i → Pq T n j < n) → N < f → ∃ t D', fX4_split_14 sh_L (sh_E kp) fu f 91 (nI p) (nI l) D = some (nI 0, D') ∧ sI T n D0 (t + 1) D' ∧ Pq T n t = n ∧ t ≤ n ∧ ∀ j, j < t → Pq T n j < n := by
  have hend : ∀ (i : Nat) (D : ev_D), i ≤ n → Pq T n i = n → sI T n D0 i D → (∀ j, j < i → Pq T n j < n) → ∃ t D', fX4_split_66 sh_L (sh_E kp) fu 91 D = some (nI 0, D') ∧ sI T n D0 (t + 1) D' ∧ Pq T n t = n ∧ t ≤ n ∧ ∀ j, j < t → Pq T n j < n := by
    intro i D hi hP hs hj
    have hk : Kq T n i = 0 := Kq_0.mpr (by omega)
    have h1' : D 91 1 = nI n := by rw [hs.2.2 91 1 (by decide) (by decide) (by decide) (by omega), h1]
    refine ⟨i, _, ?_, sI_add hs (fun _ _ _ => rfl) (fun z => by omega), hP, hi, hj⟩
    unfold fX4_split_66
    rw [i_0, h1', c_addT _ _ (by omega) hs.1, bdS, hk, hP]
  induction N with
  | zero =>
    intro p l i f D hN hp hl hi hk hs hj hf
    obtain ⟨f, rfl⟩ : ∃ f', f = f' + 1 := ⟨f - 1, by omega⟩
    have hpn : p = n := by omega
    have h1' : D 91 1 = nI n := by rw [hs.2.2 91 1 (by decide) (by decide) (by decide) (by omega), h1]
    have hP : Pq T n i = n := by rw [← hk, hpn, sk_n]
    obtain ⟨t, D', a⟩ := hend i D (by omega) hP hs hj
    refine ⟨t, D', ?_, a.2⟩
    rw [fX4_split_14, h1', i_400]
    by_cases h4 : 400 ≤ l
    · rw [if_pos (nI_le h4 (by omega))]; exact a.1
    · rw [if_neg (nI_ge (by omega) (by omega)), if_pos (nI_le (by omega) (by omega))]; exact a.1
  | succ N ih =>
    intro p l i f D hN hp hl hi hk hs hj hf
    obtain ⟨f, rfl⟩ : ∃ f', f = f' + 1 := ⟨f - 1, by omega⟩
    by_cases hpn : p = n
    · exact ih p l i (f + 1) D (by omega) hp hl hi hk hs hj (by omega)
    have hp' : p < n := by omega
    have h1' : D 91 1 = nI n := by rw [hs.2.2 91 1 (by decide) (by decide) (by decide) (by omega), h1]
    have hT' : ∀ i, i < 400 → D 106 i = nI (T i) := fun i hi => by rw [hs.2.2 106 i (by decide) (by decide) (by decide) (by omega), hT i hi]
    have hr1 := ru_gt (T := T) hp'
    have hr2 := ru_le (T := T) hp'
    rw [fX4_split_14, h1', i_400, if_neg (nI_ge (by omega) (by omega)), if_neg (nI_ge (by omega) (by omega)), c_run hfu h255 hT' hn h1' hp', bdS, e_91_4, l_106, gdI (by omega) (by omega), nI_clamp (by omega), hT' p (by omega), c_isK (h255 p), bdS, i_0, tg]
    by_cases hb : isK (T p) = true
    · rw [if_pos hb, i_1, addK]
      have hru : ru T n p = p + 1 := by
        unfold ru
        have := of_decide_eq_true hb
        rw [if_neg (by rw [isL, decide_eq_true_eq]; omega), if_neg (by rw [isG, decide_eq_true_eq]; omega)]
      rw [hru]
      exact ih (p + 1) (l + 1) i f D (by omega) (by omega) (by omega) (by omega) (by rw [← sk_s hp' hb, hk]) hs hj (by omega)
    · rw [if_neg hb]
      have hP : Pq T n i = p := by rw [← hk, sk_e (fun z => hb z.2)]
      obtain ⟨D2, a1, a2, a3⟩ := c_tok (kp := kp) hfu h255 hT' hn hp'
      have hKq : Kq T n i = tkd T n p := by unfold Kq; rw [hP, if_pos hp']
      have h82 : D2 91 8 = nI i := by rw [a3 _ _ (by omega)]; exact hs.1
      rw [a1, bdS, c_addT _ _ (by omega) h82, bdS, i_1, addK, ← hKq]
      have hs2 := sI_add hs a3 (fun z => by rw [a2 (by omega), Vq, hP])
      rw [hP] at hs2
      refine ih (ru T n p) (l + 1) (i + 1) f _ (by omega) hr2 (by omega) (by omega) ?_ hs2 (fun j hj' => ?_) (by omega)
      · rw [Pq, hP, if_pos hp']
      · by_cases e : j = i
        · rw [e, hP]; exact hp'
        · exact hj j (by omega)
/-- all split -/
def tkC (T : Nat → Nat) (n t : Nat) (D : ev_D) : Prop := D 91 8 = nI (t + 1) ∧ (∀ j, j < t + 1 → D 107 j = nI (Kq T n j) ∧ D 109 j = nI (Pq T n j) ∧ (Kq T n j = 2 → D 108 j = nI (Vq T n j))) ∧ t ≤ 400 ∧ Pq T n t = n ∧ ∀ j, j < t → Pq T n j < n
theorem c_split (hfu : 30000 ≤ fu) (h255 : ∀ i, T i ≤ 255) (hT : ∀ i, i < 400 → D 106 i = nI (T i)) (hn : n ≤ 400) (h1 : D 91 1 = nI n) : ∃ t D', fX4_split sh_L (sh_E kp) fu 91 D = some (nI 0, D') ∧ tkC T n t D' ∧ D' 91 9 = nI 0 ∧ ∀ q j, q ≠ 107 → q ≠ 108 → q ≠ 109 → ¬ (q = 91 ∧ (j = 8 ∨ j = 9 ∨ j = 10)) → D' q j = D q j := by
  unfold fX4_split
  obtain ⟨t, D', a1, a2, a3, a4, a5⟩ := c_split14 (kp := kp) (n := n) (T := T) hfu h255 (D0 := ev_up (ev_up D 91 8 (nI 0)) 91 9 (nI 0)) (fun i hi => by simp (disch := omega) only [upA, neF, eqTn, true_and, false_and, and_false, and_true, and_self, reduceIte]; exact hT i hi) hn (by simp (disch := omega) only [upA, neF, eqTn, true_and, false_and, and_false, and_true, and_self, reduceIte]; exact h1) n 0 0 0 fu (ev_up (ev_up D 91 8 (nI 0)) 91 9 (nI 0)) (by omega) (by omega) (by omega) (by omega) rfl ⟨by simp (disch := omega) only [upA, neF, eqTn, true_and, false_and, and_false, and_true, and_self, reduceIte], fun j hj => by omega, fun _ _ _ _ _ _ => rfl⟩ (fun j hj => by omega) (by omega)
  refine ⟨t, D', a1, ⟨a2.1, a2.2.1, by omega, a3, a5⟩, ?_, fun q j h1 h2 h3 h4 => ?_⟩
  · rw [a2.2.2 91 9 (by decide) (by decide) (by decide) (by omega)]
    simp (disch := omega) only [upA, neF, eqTn, true_and, false_and, and_false, and_true, and_self, reduceIte]
  · rw [a2.2.2 q j h1 h2 h3 (by omega), upA, if_neg (by omega), upA, if_neg (by omega)]
end Split
