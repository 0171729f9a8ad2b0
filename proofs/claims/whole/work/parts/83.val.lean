/-! ===== text: what was read comes to one value, in both codes ===== -/
theorem ev_app (md : Bool) (vals : Nat → Int32) : ∀ (l r : List lw_C) (st : List Int32), lw_ev md vals (l ++ r) st = (lw_ev md vals l st).bind (lw_ev md vals r)
  | [], r, st => rfl
  | x :: l, r, st => by
    show (lw_st md vals x st).bind (lw_ev md vals (l ++ r)) = ((lw_st md vals x st).bind (lw_ev md vals l)).bind (lw_ev md vals r)
    cases lw_st md vals x st with
    | none => rfl
    | some s => exact ev_app md vals l r s
section Val
variable {md : Bool}
theorem sg_mo {d d' : Nat} {l : List lw_C} {f : (Nat → Int32) → Int32} (h : lw_sg md d l f) (hd : d ≤ d') : lw_sg md d' l f := ⟨h.1, fun lim n r hn => h.2 lim n r (by omega)⟩
theorem sg_un {u : lw_C} (h : u.1 ≤ 1) : lw_sg md 1 [u] (fun v => if u.1 = 0 then nI u.2 else v u.2) := by
  refine ⟨fun vals st => ?_, fun lim n r hn => ?_⟩
  · show (lw_st md vals u st).bind (lw_ev md vals []) = _
    unfold lw_st
    by_cases h0 : u.1 = 0
    · rw [if_pos h0]
      show _ = some ((if u.1 = 0 then nI u.2 else vals u.2) :: st)
      rw [if_pos h0]
      rfl
    · rw [if_neg h0, if_pos (by omega)]
      show _ = some ((if u.1 = 0 then nI u.2 else vals u.2) :: st)
      rw [if_neg h0]
      rfl
  · show (if u.1 ≤ 1 then _ else _) = _
    rw [if_pos h, decide_eq_true (show n < lim by omega), Bool.true_and]
    rfl
theorem sg_bin {d1 d2 d k : Nat} {l1 l2 : List lw_C} {f1 f2 g : (Nat → Int32) → Int32} (h1 : lw_sg md d1 l1 f1) (h2 : lw_sg md d2 l2 f2) (hk : k ≠ 0) (hg : ∀ v, lw_two md k (f1 v) (f2 v) = some (g v)) (hd1 : d1 ≤ d) (hd2 : d2 + 1 ≤ d) (hd : 2 ≤ d) : lw_sg md d (l1 ++ l2 ++ [(2, k)]) g := by
  refine ⟨fun vals st => ?_, fun lim n r hn => ?_⟩
  · rw [ev_app, ev_app, h1.1]
    show (lw_ev md vals l2 (f1 vals :: st)).bind _ = _
    rw [h2.1]
    show (lw_st md vals (2, k) (f2 vals :: f1 vals :: st)).bind (lw_ev md vals []) = _
    unfold lw_st
    rw [if_neg (show ¬ 2 = 0 by decide), if_neg (show ¬ 2 = 1 by decide), if_neg hk]
    show ((lw_two md k (f1 vals) (f2 vals)).map (fun v => v :: st)).bind _ = _
    rw [hg]
    rfl
  · rw [List.append_assoc, List.append_assoc, h1.2 lim n _ (by omega), h2.2 lim (n + 1) _ (by omega)]
    show (if (2 : Nat) ≤ 1 then _ else if k = 0 then _ else _) = _
    rw [if_neg (by decide), if_neg hk, decide_eq_true (show 2 ≤ n + 1 + 1 by omega), Bool.true_and]
    rfl
theorem sg_not {d : Nat} {l : List lw_C} {f : (Nat → Int32) → Int32} (h : lw_sg md d l f) : lw_sg md d (l ++ [(2, 0)]) (fun v => nI 1 - f v) := by
  refine ⟨fun vals st => ?_, fun lim n r hn => ?_⟩
  · rw [ev_app, h.1]
    rfl
  · rw [List.append_assoc, h.2 lim n _ hn]
    show (if (2 : Nat) ≤ 1 then _ else if (0 : Nat) = 0 then _ else _) = _
    rw [if_neg (by decide), if_pos rfl, decide_eq_true (show 1 ≤ n + 1 by omega), Bool.true_and]
    rfl
theorem sg_ne {d : Nat} {l : List lw_C} {f : (Nat → Int32) → Int32} (h : lw_sg md d l f) : l ≠ [] := by
  intro e
  have := h.1 (fun _ => nI 0) []
  rw [e] at this
  cases this
end Val
def vzA (l : List lw_C) : Prop := ∀ x, x ∈ l → lw_gd x
theorem vzA_app {l r : List lw_C} (h1 : vzA l) (h2 : vzA r) : vzA (l ++ r) := fun x hx => (List.mem_append.mp hx).elim (h1 x) (h2 x)
theorem vzA_1 {u : lw_C} (h : lw_gd u) : vzA [u] := fun x hx => by
  rw [List.mem_singleton] at hx
  rw [hx]; exact h
theorem gd2 {k : Nat} (h : k ≤ 9) : vzA [(2, k)] := vzA_1 (.inr (.inr ⟨rfl, h⟩))
def vzS (d : Nat) (l : List lw_C) : Prop := vzA l ∧ ∃ f, lw_sg false d l f ∧ lw_sg true d l f
def vzB (d : Nat) (p : lP) : Prop := vzA p.1 ∧ vzA p.2 ∧ ∃ f, lw_sg false d p.1 f ∧ lw_sg true d p.2 f ∧ ∀ v, f v = nI 0 ∨ f v = nI 1
section ValS
variable {K V : Nat → Nat}
theorem un_g (hV : ∀ i, K i = 2 → V i < 10000) {i : Nat} {u : lw_C} (h : un K V i = some u) : lw_gd u ∧ u.1 ≤ 1 := by
  unfold un at h
  by_cases h1 : K i = 2
  · rw [if_pos h1] at h
    cases h
    exact ⟨.inl ⟨rfl, hV i h1⟩, Nat.zero_le 1⟩
  · rw [if_neg h1] at h
    by_cases h2 : 263 ≤ K i ∧ K i ≤ 273
    · rw [if_pos h2] at h
      cases h
      exact ⟨.inr (.inl ⟨rfl, by show K i - 263 < 11; omega⟩), Nat.le_refl 1⟩
    · rw [if_neg h2] at h; cases h
theorem vzS_un {u : lw_C} (h : lw_gd u) (h1 : u.1 ≤ 1) : vzS 2 [u] := ⟨vzA_1 h, _, sg_mo (sg_un h1) (by decide), sg_mo (sg_un h1) (by decide)⟩
theorem two_ari {md : Bool} {k : Nat} (a b : Int32) : lw_two md 1 a b = some (a + b) ∧ lw_two md 2 a b = some (a - b) ∧ lw_two md 3 a b = some (a * b) ∧ (b ≠ nI 0 → lw_two md 4 a b = some (a / b)) := ⟨rfl, rfl, rfl, fun h => by
  unfold lw_two
  rw [if_neg (by decide), if_neg (by decide), if_neg (by decide), if_pos rfl, if_neg h]⟩
theorem vzS_ari {d d1 d2 k : Nat} {l1 l2 : List lw_C} (h1 : vzS d1 l1) (h2 : vzS d2 l2) (hk : k = 1 ∨ k = 2 ∨ k = 3) (hd1 : d1 ≤ d) (hd2 : d2 + 1 ≤ d) (hd : 2 ≤ d) : vzS d (l1 ++ l2 ++ [(2, k)]) := by
  obtain ⟨a1, f1, b1, c1⟩ := h1
  obtain ⟨a2, f2, b2, c2⟩ := h2
  refine ⟨vzA_app (vzA_app a1 a2) (gd2 (by omega)), ?_⟩
  rcases hk with rfl | rfl | rfl
  · exact ⟨fun v => f1 v + f2 v, sg_bin b1 b2 (by decide) (fun v => rfl) hd1 hd2 hd, sg_bin c1 c2 (by decide) (fun v => rfl) hd1 hd2 hd⟩
  · exact ⟨fun v => f1 v - f2 v, sg_bin b1 b2 (by decide) (fun v => rfl) hd1 hd2 hd, sg_bin c1 c2 (by decide) (fun v => rfl) hd1 hd2 hd⟩
  · exact ⟨fun v => f1 v * f2 v, sg_bin b1 b2 (by decide) (fun v => rfl) hd1 hd2 hd, sg_bin c1 c2 (by decide) (fun v => rfl) hd1 hd2 hd⟩
theorem vzS_div {d d1 x : Nat} {l1 : List lw_C} (h1 : vzS d1 l1) (hx : x < 10000) (h0 : x ≠ 0) (hd1 : d1 ≤ d) (hd : 2 ≤ d) : vzS d (l1 ++ [(0, x)] ++ [(2, 4)]) := by
  obtain ⟨a1, f1, b1, c1⟩ := h1
  have hne : nI x ≠ nI 0 := fun z => h0 ((nI_eq (by omega) (by omega)).mp z)
  refine ⟨vzA_app (vzA_app a1 (vzA_1 (.inl ⟨rfl, hx⟩))) (gd2 (by decide)), fun v => f1 v / nI x, ?_, ?_⟩
  · exact sg_bin b1 (sg_un (u := (0, x)) (Nat.zero_le 1)) (by decide) (fun v => (two_ari (k := 4) _ _).2.2.2 hne) hd1 hd hd
  · exact sg_bin c1 (sg_un (u := (0, x)) (Nat.zero_le 1)) (by decide) (fun v => (two_ari (k := 4) _ _).2.2.2 hne) hd1 hd hd
theorem prL_g (hV : ∀ i, K i = 2 → V i < 10000) : ∀ (d i : Nat) (acc : List lw_C) (j : Nat) (l : List lw_C), vzS 2 acc → prL K V d i acc = .inr (j, l) → vzS 2 l
  | 0, i, acc, j, l, _, h => by cases h
  | d + 1, i, acc, j, l, ha, h => by
    rw [prL] at h
    by_cases h1 : K i = 42
    · rw [if_pos h1] at h
      cases e : un K V (i + 1) with
      | none => rw [e] at h; cases h
      | some u =>
        rw [e] at h
        obtain ⟨g1, g2⟩ := un_g hV e
        refine prL_g hV d (i + 2) _ j l ?_ h
        have := vzS_ari (d := 2) (k := 3) (d2 := 1) ha ⟨vzA_1 g1, _, sg_un g2, sg_un g2⟩ (by omega) (by decide) (by decide) (by decide)
        rw [List.append_assoc] at this
        exact this
    · rw [if_neg h1] at h
      by_cases h2 : K i = 47
      · rw [if_pos h2] at h
        by_cases h3 : K (i + 1) = 2
        · rw [if_pos h3] at h
          by_cases h4 : V (i + 1) = 0
          · rw [if_pos h4] at h; cases h
          · rw [if_neg h4] at h
            refine prL_g hV d (i + 2) _ j l ?_ h
            have := vzS_div (d := 2) ha (hV _ h3) h4 (by decide) (by decide)
            rw [List.append_assoc] at this
            exact this
        · rw [if_neg h3] at h; cases h
      · rw [if_neg h2] at h
        cases h
        exact ha
theorem prd_g (hV : ∀ i, K i = 2 → V i < 10000) {i j : Nat} {l : List lw_C} (h : prd K V i = .inr (j, l)) : vzS 2 l := by
  unfold prd at h
  cases e : un K V i with
  | none => rw [e] at h; cases h
  | some u =>
    rw [e] at h
    obtain ⟨g1, g2⟩ := un_g hV e
    exact prL_g hV 402 (i + 1) _ j l (vzS_un g1 g2) h
theorem vzS_mo {d d' : Nat} {l : List lw_C} (h : vzS d l) (hd : d ≤ d') : vzS d' l := by
  obtain ⟨a, f, b, c⟩ := h
  exact ⟨a, f, sg_mo b hd, sg_mo c hd⟩
theorem smL_g (hV : ∀ i, K i = 2 → V i < 10000) : ∀ (e i : Nat) (acc : List lw_C) (j : Nat) (l : List lw_C), vzS 3 acc → smL K V e i acc = .inr (j, l) → vzS 3 l
  | 0, i, acc, j, l, _, h => by cases h
  | e + 1, i, acc, j, l, ha, h => by
    rw [smL] at h
    by_cases h1 : K i = 43 ∨ K i = 45
    · rw [if_pos h1] at h
      cases e2 : prd K V (i + 1) with
      | inl x => rw [e2] at h; cases h
      | inr x =>
        obtain ⟨j2, l2⟩ := x
        rw [e2] at h
        refine smL_g hV e j2 _ j l (vzS_ari ha (prd_g hV e2) ?_ (by decide) (by decide) (by decide)) h
        split <;> omega
    · rw [if_neg h1] at h
      cases h
      exact ha
theorem sm_g (hV : ∀ i, K i = 2 → V i < 10000) {i j : Nat} {l : List lw_C} (h : sm K V i = .inr (j, l)) : vzS 3 l := by
  unfold sm at h
  cases e : prd K V i with
  | inl x => rw [e] at h; cases h
  | inr x =>
    obtain ⟨j2, l2⟩ := x
    rw [e] at h
    exact smL_g hV 402 j2 l2 j l (vzS_mo (prd_g hV e) (by decide)) h
theorem vzB_cmp {k : Nat} {l1 l2 : List lw_C} (h1 : vzS 3 l1) (h2 : vzS 3 l2) (hk : k = 5 ∨ k = 6 ∨ k = 7) : vzB 4 (l1 ++ l2 ++ [(2, k)], l1 ++ l2 ++ [(2, k)]) := by
  obtain ⟨a1, f1, b1, c1⟩ := h1
  obtain ⟨a2, f2, b2, c2⟩ := h2
  refine ⟨vzA_app (vzA_app a1 a2) (gd2 (by omega)), vzA_app (vzA_app a1 a2) (gd2 (by omega)), ?_⟩
  rcases hk with rfl | rfl | rfl
  · refine ⟨fun v => if f1 v < f2 v then nI 1 else nI 0, sg_bin b1 b2 (by decide) (fun v => rfl) (by decide) (by decide) (by decide), sg_bin c1 c2 (by decide) (fun v => rfl) (by decide) (by decide) (by decide), fun v => ?_⟩
    by_cases q : f1 v < f2 v
    · exact .inr (if_pos q)
    · exact .inl (if_neg q)
  · refine ⟨fun v => if f1 v = f2 v then nI 1 else nI 0, sg_bin b1 b2 (by decide) (fun v => rfl) (by decide) (by decide) (by decide), sg_bin c1 c2 (by decide) (fun v => rfl) (by decide) (by decide) (by decide), fun v => ?_⟩
    by_cases q : f1 v = f2 v
    · exact .inr (if_pos q)
    · exact .inl (if_neg q)
  · refine ⟨fun v => if f2 v < f1 v then nI 1 else nI 0, sg_bin b1 b2 (by decide) (fun v => rfl) (by decide) (by decide) (by decide), sg_bin c1 c2 (by decide) (fun v => rfl) (by decide) (by decide) (by decide), fun v => ?_⟩
    by_cases q : f2 v < f1 v
    · exact .inr (if_pos q)
    · exact .inl (if_neg q)
theorem cm_g (hV : ∀ i, K i = 2 → V i < 10000) {i j : Nat} {l : List lw_C} (h : cm K V i = .inr (j, l)) : vzB 4 (l, l) := by
  unfold cm at h
  cases e : sm K V i with
  | inl x => rw [e] at h; cases h
  | inr x =>
    obtain ⟨j1, l1⟩ := x
    rw [e] at h
    by_cases h3 : 60 ≤ K j1 ∧ K j1 ≤ 62
    · have h : (match sm K V (j1 + 1) with
        | .inl x => .inl x
        | .inr (j2, l2) => .inr (j2, l1 ++ l2 ++ [(2, 5 + (K j1 - 60))])) = (.inr (j, l) : tR (List lw_C)) := by rw [← h]; exact (if_pos h3).symm
      cases e2 : sm K V (j1 + 1) with
      | inl x => rw [e2] at h; cases h
      | inr x =>
        obtain ⟨j2, l2⟩ := x
        rw [e2] at h
        cases h
        exact vzB_cmp (sm_g hV e) (sm_g hV e2) (by omega)
    · have h : (.inl (1, j1) : tR (List lw_C)) = .inr (j, l) := by rw [← h]; exact (if_neg h3).symm
      cases h
theorem vzB_mo {d d' : Nat} {p : lP} (h : vzB d p) (hd : d ≤ d') : vzB d' p := by
  obtain ⟨a, b, f, c1, c2, c3⟩ := h
  exact ⟨a, b, f, sg_mo c1 hd, sg_mo c2 hd, c3⟩
theorem inn_g (hV : ∀ i, K i = 2 → V i < 10000) {rt : Nat → Nat → tR lP} {X : Nat} (hX : 4 ≤ X) (hr : ∀ o i j p, rt o i = .inr (j, p) → vzB X p) {o i j : Nat} {p : lP} (h : inn K V rt o i = .inr (j, p)) : vzB X p := by
  unfold inn at h
  by_cases h1 : K i = 40
  · rw [if_pos h1] at h
    by_cases h2 : o < 8
    · rw [if_pos h2] at h
      cases e : rt (o + 1) (i + 1) with
      | inl x => rw [e] at h; cases h
      | inr x =>
        obtain ⟨j1, p1⟩ := x
        have hb := hr _ _ _ _ e
        rw [e] at h
        by_cases h3 : K j1 = 41
        · have h : (.inr (j1 + 1, p1) : tR lP) = .inr (j, p) := by rw [← h]; exact (if_pos h3).symm
          cases h
          exact hb
        · have h : (.inl (1, j1) : tR lP) = .inr (j, p) := by rw [← h]; exact (if_neg h3).symm
          cases h
    · rw [if_neg h2] at h; cases h
  · rw [if_neg h1] at h
    cases e : cm K V i with
    | inl x => rw [e] at h; cases h
    | inr x =>
      obtain ⟨j1, l1⟩ := x
      rw [e] at h
      cases h
      exact vzB_mo (cm_g hV e) hX
theorem sub2 (x : Int32) : nI 1 - (nI 1 - x) = x := by
  apply nI_ext
  simp only [Int32.toBitVec_sub]
  generalize (nI 1).toBitVec = a
  generalize x.toBitVec = b
  apply BitVec.eq_of_toInt_eq
  simp only [BitVec.toInt_sub]
  have h1 := BitVec.toInt_lt (x := b)
  have h2 := BitVec.le_toInt (x := b)
  rw [Int.sub_bmod_bmod, show a.toInt - (a.toInt - b.toInt) = b.toInt by omega]
  exact BitVec.toInt_bmod_cancel b
theorem vzB_not {d : Nat} {p : lP} (h : vzB d p) : ∀ k, vzA (nP k p).1 ∧ vzA (nP k p).2 ∧ ∃ f, lw_sg false d (nP k p).1 f ∧ lw_sg true d (nP k p).2 f ∧ ∀ v, f v = nI 0 ∨ f v = nI 1
  | 0 => by
    obtain ⟨a, b, f, c1, c2, c3⟩ := h
    show vzA (p.1 ++ []) ∧ vzA (p.2 ++ []) ∧ ∃ f, lw_sg false d (p.1 ++ []) f ∧ lw_sg true d (p.2 ++ []) f ∧ _
    rw [List.append_nil, List.append_nil]
    exact ⟨a, b, f, c1, c2, c3⟩
  | k + 1 => by
    obtain ⟨_, b, f, c1, c2, c3⟩ := vzB_not h k
    obtain ⟨a0, b0, f0, q1, q2, q3⟩ := h
    have e2 : (nP (k + 1) p).2 = (nP k p).2 ++ [(2, 0)] := by
      show p.2 ++ List.replicate (k + 1) (2, 0) = p.2 ++ List.replicate k (2, 0) ++ [(2, 0)]
      rw [List.replicate_succ', List.append_assoc]
    have hA1 : vzA (nP (k + 1) p).1 := by
      show vzA (p.1 ++ _)
      split
      · exact vzA_app a0 (gd2 (by decide))
      · rw [List.append_nil]; exact a0
    have h01 : ∀ v, nI 1 - f v = nI 0 ∨ nI 1 - f v = nI 1 := fun v => by
      rcases c3 v with z | z
      · rw [z]; exact .inr (by decide)
      · rw [z]; exact .inl (by decide)
    refine ⟨hA1, by rw [e2]; exact vzA_app b (gd2 (by decide)), fun v => nI 1 - f v, ?_, by rw [e2]; exact sg_not c2, h01⟩
    by_cases hk : k % 2 = 1
    · have e1 : (nP k p).1 = p.1 ++ [(2, 0)] := by
        show p.1 ++ (if k % 2 = 1 then _ else _) = _
        rw [if_pos hk]
      have e1' : (nP (k + 1) p).1 = p.1 := by
        show p.1 ++ (if (k + 1) % 2 = 1 then _ else _) = _
        rw [if_neg (by omega), List.append_nil]
      rw [e1]  at c1
      rw [e1']
      have h3 := sg_not q1
      have hff : ∀ v, nI 1 - f v = f0 v := by
        intro v
        have x1 := c1.1 v []
        have x2 := h3.1 v []
        rw [x1] at x2
        injection x2 with x2
        injection x2 with x2 _
        rw [x2, sub2]
      rw [show (fun v => nI 1 - f v) = f0 from funext hff]
      exact q1
    · have e1 : (nP k p).1 = p.1 := by
        show p.1 ++ (if k % 2 = 1 then _ else _) = _
        rw [if_neg hk, List.append_nil]
      have e1' : (nP (k + 1) p).1 = p.1 ++ [(2, 0)] := by
        show p.1 ++ (if (k + 1) % 2 = 1 then _ else _) = _
        rw [if_pos (by omega)]
      rw [e1] at c1
      rw [e1']
      exact sg_not c1
theorem tpr_g (hV : ∀ i, K i = 2 → V i < 10000) {rt : Nat → Nat → tR lP} {X : Nat} (hX : 4 ≤ X) (hr : ∀ o i j p, rt o i = .inr (j, p) → vzB X p) {o i j : Nat} {p : lP} (h : tpr K V rt o i = .inr (j, p)) : vzB X p := by
  unfold tpr at h
  cases e : nt K 10 o i with
  | inl x => rw [e] at h; cases h
  | inr x =>
    obtain ⟨j1, o2⟩ := x
    rw [e] at h
    cases e2 : inn K V rt o2 j1 with
    | inl x =>
      have h : (.inl x : tR lP) = .inr (j, p) := by
        rw [← h]
        show _ = (match inn K V rt o2 j1 with
          | .inl x => (.inl x : tR lP)
          | .inr (j3, p) => .inr (j3, nP (o2 - o) p))
        rw [e2]
      cases h
    | inr x =>
      obtain ⟨j3, p1⟩ := x
      have h : (.inr (j3, nP (o2 - o) p1) : tR lP) = .inr (j, p) := by
        rw [← h]
        show _ = (match inn K V rt o2 j1 with
          | .inl x => (.inl x : tR lP)
          | .inr (j3, p) => .inr (j3, nP (o2 - o) p))
        rw [e2]
      cases h
      exact vzB_not (inn_g hV hX hr e2) _
theorem jn_g {d d' k : Nat} {a : Option lP} {b : lP} (ha : ∀ x, a = some x → vzB d' x) (hb : vzB d b) (hk : k = 8 ∨ k = 9) (hd : d + 1 ≤ d') (hd2 : 2 ≤ d') : vzB d' (jn a k b) := by
  cases a with
  | none => exact vzB_mo hb (by omega)
  | some x =>
    obtain ⟨a1, a2, f1, b1, c1, z1⟩ := ha x rfl
    obtain ⟨a3, a4, f2, b2, c2, z2⟩ := hb
    refine ⟨vzA_app (vzA_app a1 a3) (gd2 (by omega)), vzA_app (vzA_app a2 a4) (gd2 (by omega)), ?_⟩
    rcases hk with rfl | rfl
    · refine ⟨fun v => f1 v &&& f2 v, sg_bin b1 b2 (by decide) (fun v => rfl) (Nat.le_refl _) hd hd2, sg_bin c1 c2 (by decide) (fun v => ?_) (Nat.le_refl _) hd hd2, fun v => ?_⟩
      · show some (f1 v * f2 v) = some (f1 v &&& f2 v)
        rcases z1 v with q | q <;> rcases z2 v with r | r <;> rw [q, r] <;> decide
      · show f1 v &&& f2 v = nI 0 ∨ f1 v &&& f2 v = nI 1
        rcases z1 v with q | q <;> rcases z2 v with r | r <;> rw [q, r] <;> decide
    · refine ⟨fun v => f1 v ||| f2 v, sg_bin b1 b2 (by decide) (fun v => rfl) (Nat.le_refl _) hd hd2, sg_bin c1 c2 (by decide) (fun v => ?_) (Nat.le_refl _) hd hd2, fun v => ?_⟩
      · show some (if nI 0 < f1 v + f2 v then nI 1 else nI 0) = some (f1 v ||| f2 v)
        rcases z1 v with q | q <;> rcases z2 v with r | r <;> rw [q, r] <;> decide
      · show f1 v ||| f2 v = nI 0 ∨ f1 v ||| f2 v = nI 1
        rcases z1 v with q | q <;> rcases z2 v with r | r <;> rw [q, r] <;> decide
theorem trL_g (hV : ∀ i, K i = 2 → V i < 10000) {rt : Nat → Nat → tR lP} {X : Nat} (hX : 4 ≤ X) (hr : ∀ o i j p, rt o i = .inr (j, p) → vzB X p) {o : Nat} : ∀ (d i : Nat) (A B : Option lP) (j : Nat) (p : lP), (∀ x, A = some x → vzB (X + 2) x) → (∀ x, B = some x → vzB (X + 1) x) → trL K V rt o d i A B = .inr (j, p) → vzB (X + 2) p
  | 0, i, A, B, j, p, _, _, h => by cases h
  | d + 1, i, A, B, j, p, hA, hB, h => by
    rw [trL] at h
    cases e : tpr K V rt o i with
    | inl x => rw [e] at h; cases h
    | inr x =>
      obtain ⟨j1, p1⟩ := x
      have h1 := tpr_g hV hX hr e
      have g1 := jn_g (k := 8) hB h1 (.inl rfl) (Nat.le_refl _) (by omega)
      have g2 := jn_g (k := 9) hA g1 (.inr rfl) (Nat.le_refl _) (by omega)
      have h : (if K j1 = 261 then trL K V rt o d (j1 + 1) A (some (jn B 8 p1)) else if K j1 = 260 then trL K V rt o d (j1 + 1) (some (jn A 9 (jn B 8 p1))) none else .inr (j1, jn A 9 (jn B 8 p1))) = .inr (j, p) := by rw [← h, e]
      by_cases q1 : K j1 = 261
      · rw [if_pos q1] at h
        exact trL_g hV hX hr d (j1 + 1) A (some (jn B 8 p1)) j p hA (fun x hx => by cases hx; exact g1) h
      · rw [if_neg q1] at h
        by_cases q2 : K j1 = 260
        · rw [if_pos q2] at h
          exact trL_g hV hX hr d (j1 + 1) (some (jn A 9 (jn B 8 p1))) none j p (fun x hx => by cases hx; exact g2) (fun x hx => by cases hx) h
        · rw [if_neg q2] at h
          cases h
          exact g2
theorem tr_g (hV : ∀ i, K i = 2 → V i < 10000) : ∀ (k : Nat) (o i j : Nat) (p : lP), tr K V k o i = .inr (j, p) → vzB (4 + 2 * k) p
  | 0, o, i, j, p, h => by cases h
  | k + 1, o, i, j, p, h => by
    rw [tr] at h
    exact trL_g hV (X := 4 + 2 * k) (by omega) (fun o i j p h => tr_g hV k o i j p h) 402 i none none j p (fun x hx => by cases hx) (fun x hx => by cases hx) h
end ValS
