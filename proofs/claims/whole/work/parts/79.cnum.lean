/-! ===== text: the class reads sums ===== -/
/-- what reading a law changes; with e: also what is told of a fault -/
def fX (e : Bool) (q j : Nat) : Prop := (q = 91 ∧ (j = 9 ∨ j = 10 ∨ (e = true ∧ (j = 2 ∨ j = 3)))) ∨ (q = 93 ∧ j = 1) ∨ q = 98
def fr (e : Bool) (D' D : ev_D) : Prop := ∀ q j, ¬ fX e q j → D' q j = D q j
theorem x2 : fX true 91 2 := .inl ⟨rfl, .inr (.inr ⟨rfl, .inl rfl⟩)⟩
theorem x3 : fX true 91 3 := .inl ⟨rfl, .inr (.inr ⟨rfl, .inr rfl⟩)⟩
theorem x9 {e : Bool} : fX e 91 9 := .inl ⟨rfl, .inl rfl⟩
theorem x10 {e : Bool} : fX e 91 10 := .inl ⟨rfl, .inr (.inl rfl)⟩
theorem xu {e : Bool} : fX e 93 1 := .inr (.inl ⟨rfl, rfl⟩)
theorem xc {e : Bool} (i : Nat) : fX e 98 i := .inr (.inr rfl)
theorem fr_rf {e : Bool} (D : ev_D) : fr e D D := fun _ _ _ => rfl
theorem fX_t {e : Bool} {q j : Nat} (h : fX false q j) : fX e q j := by
  rcases h with ⟨h1, h2 | h2 | h2⟩ | h
  · exact .inl ⟨h1, .inl h2⟩
  · exact .inl ⟨h1, .inr (.inl h2)⟩
  · exact absurd h2.1 (by decide)
  · exact .inr h
theorem fr_tr {e : Bool} {D1 D2 D3 : ev_D} (h1 : fr false D2 D1) (h2 : fr e D3 D2) : fr e D3 D1 := fun q j h => (h2 q j h).trans (h1 q j (fun z => h (fX_t z)))
theorem fr_up {e : Bool} {D1 D : ev_D} {q i : Nat} {v : Int32} (h : fr e D1 D) (hx : fX e q i) : fr e (ev_up D1 q i v) D := fun k j hk => by
  rw [upA, if_neg (fun z => hk (by rw [z.1, z.2]; exact hx))]
  exact h k j hk
theorem nx {e : Bool} {q j : Nat} (h : ¬ (q = 91 ∧ (j = 2 ∨ j = 3 ∨ j = 9 ∨ j = 10))) (h2 : ¬ (q = 93 ∧ j = 1)) (h3 : q ≠ 98) : ¬ fX e q j := fun z => z.elim (fun y => h ⟨y.1, by
  rcases y.2 with w | w | w
  · exact .inr (.inr (.inl w))
  · exact .inr (.inr (.inr w))
  · rcases w.2 with w | w
    · exact .inl w
    · exact .inr (.inl w)⟩) (fun y => y.elim h2 h3)
/-- the codes so far -/
def cd (D : ev_D) (G : List lw_C) : Prop := D 93 1 = nI G.length ∧ ∀ i (h : i < G.length), D 98 i = lw_cC G[i]
theorem cd_of {D D' : ev_D} {G : List lw_C} (h1 : D' 93 1 = D 93 1) (h2 : ∀ i, D' 98 i = D 98 i) (h : cd D G) : cd D' G := ⟨by rw [h1]; exact h.1, fun i hi => by rw [h2]; exact h.2 i hi⟩
theorem cd_91 {D : ev_D} {G : List lw_C} {i : Nat} {v : Int32} (h : cd D G) : cd (ev_up D 91 i v) G := cd_of (by rw [upN _ _ _ _ (by decide)]) (fun j => by rw [upN _ _ _ _ (by decide)]) h
section CNum
variable {kp fu n t i : Nat} {T : Nat → Nat} {D : ev_D}
theorem tkC_of {D' : ev_D} (h : ∀ q j, (q = 91 ∧ j = 8) ∨ q = 107 ∨ q = 108 ∨ q = 109 → D' q j = D q j) (g : tkC T n t D) : tkC T n t D' := by
  obtain ⟨g1, g2, g3⟩ := g
  refine ⟨by rw [h 91 8 (.inl ⟨rfl, rfl⟩)]; exact g1, fun j hj => ?_, g3⟩
  rw [h 107 j (.inr (.inl rfl)), h 108 j (.inr (.inr (.inl rfl))), h 109 j (.inr (.inr (.inr rfl)))]
  exact g2 j hj
theorem tkC_fr {e : Bool} {D' : ev_D} (h : fr e D' D) (g : tkC T n t D) : tkC T n t D' := tkC_of (fun q j z => h q j (nx (by omega) (by omega) (by omega))) g
theorem tkC_91 {j : Nat} {v : Int32} (hj : j ≠ 8) (g : tkC T n t D) : tkC T n t (ev_up D 91 j v) := tkC_of (fun q k z => by rw [upA, if_neg (by omega)]) g
theorem tkC_lt (g : tkC T n t D) (hi : i ≤ t) (hK : Kq T n i ≠ 0) : i < t := by
  by_cases e : i = t
  · exact absurd (Kq_0.mpr (by rw [e, g.2.2.2.1]; omega)) hK
  · omega
theorem c_kind (g : tkC T n t D) (h9 : D 91 9 = nI i) (hi : i ≤ t) : fX4_kind sh_L (sh_E kp) fu 91 D = some (nI (Kq T n i), D) := by
  have ht := g.2.2.1
  unfold fX4_kind
  rw [g.1, h9, if_neg (nI_ge (by omega) (by omega)), e_91_5, l_107, ofN, if_neg (nI_ge (by omega) (by omega)), gdI (by omega) (by omega), nI_clamp (by omega), (g.2.1 i (by omega)).1]
def eF (T : Nat → Nat) (n f i : Nat) (D : ev_D) : Prop := D 91 2 = nI f ∧ D 91 3 = nI (Pq T n i)
theorem c_ref (g : tkC T n t D) (h9 : D 91 9 = nI i) (hi : i ≤ t) (f : Nat) : ∃ D', fX4_refuse sh_L (sh_E kp) fu 91 (nI f) D = some (nI 0, D') ∧ eF T n f i D' ∧ fr true D' D ∧ ∀ q j, ¬ (q = 91 ∧ (j = 2 ∨ j = 3)) → D' q j = D q j := by
  have ht := g.2.2.1
  refine ⟨ev_up (ev_up D 91 2 (nI f)) 91 3 (nI (Pq T n i)), ?_, ⟨by simp (disch := omega) only [upA, neF, eqTn, true_and, false_and, and_false, and_true, and_self, reduceIte], by simp (disch := omega) only [upA, neF, eqTn, true_and, false_and, and_false, and_true, and_self, reduceIte]⟩, fr_up (fr_up (fr_rf _) x2) x3, fun q j h => by rw [upA, if_neg (by omega), upA, if_neg (by omega)]⟩
  unfold fX4_refuse
  rw [upJ _ _ _ _ (show (8 : Nat) ≠ 2 by decide), upJ _ _ _ _ (show (9 : Nat) ≠ 2 by decide), g.1, h9, if_neg (nI_ge (by omega) (by omega)), e_91_7, l_109, ofN, if_neg (nI_ge (by omega) (by omega)), gdI (by omega) (by omega), nI_clamp (by omega), upN _ _ _ _ (show (109 : Nat) ≠ 91 by decide), (g.2.1 i (by omega)).2.1]
  rfl
theorem tb1 : ∀ v, v < 31 → Nat.testBit 1 v = true → v = 0 := by decide
theorem gb0 {x : ev_Op} : ev_gd (nI 0 == 0 || nI 0 == 1) x = x := gdT (by decide)
/-- a number that may stand here -/
theorem c_tn1 {l1 l2 : Int32} (g : tkC T n t D) (h9 : D 91 9 = nI i) (hi : i ≤ t) (hk2 : Kq T n i < 283) (hk : Kq T n i ≠ 2) : ∃ D', fX4_takeNumber sh_L (sh_E kp) fu 91 l1 l2 D = some (nI 0, D') ∧ eF T n 1 i D' ∧ fr true D' D := by
  obtain ⟨D', a1, a2, a3, _⟩ := c_ref (kp := kp) (fu := fu) g h9 hi 1
  refine ⟨D', ?_, a2, a3⟩
  unfold fX4_takeNumber fX4_takeNumber_20
  rw [c_kind g h9 hi, bdS, i_2, if_neg (fun z => hk ((nI_eq (by omega) (by omega)).mp z)), i_1, a1, bdS]
  rfl
theorem c_tn2 {l1 : Int32} {R b : Nat} (g : tkC T n t D) (h9 : D 91 9 = nI i) (hi : i ≤ t) (hk : Kq T n i = 2) (hl : ∀ v, v < 10000 → (l1 < nI v ↔ R ≤ v)) (hb : b < 2 ^ 31) (hv : R ≤ Vq T n i ∨ (Vq T n i < 31 ∧ b.testBit (Vq T n i) = true)) : ∃ D', fX4_takeNumber sh_L (sh_E kp) fu 91 l1 (nI b) D = some (nI 0, D') ∧ eF T n 2 i D' ∧ fr true D' D := by
  obtain ⟨D', a1, a2, a3, _⟩ := c_ref (kp := kp) (fu := fu) g h9 hi 2
  have ht := g.2.2.1
  have hV := Vq_lt hk
  refine ⟨D', ?_, a2, a3⟩
  unfold fX4_takeNumber fX4_takeNumber_55
  rw [c_kind g h9 hi, bdS, i_2, hk, if_pos rfl, h9, e_91_6, l_108, ofN, if_pos (nI_lt (by omega) (by omega)), gdI (by omega) (by omega), nI_clamp (by omega), (g.2.1 i (by omega)).2.2 hk]
  by_cases h1 : R ≤ Vq T n i
  · rw [if_pos ((hl _ hV).mpr h1), a1, bdS]; rfl
  · obtain ⟨h3, h4⟩ := hv.resolve_left h1
    rw [if_neg (fun z => h1 ((hl _ hV).mp z)), i_31, if_neg (nI_ge h3 (by omega)), e_isIn _ _ _ _ hb (by omega), bdS, h4, i_0, if_neg (by decide), a1, bdS]
    rfl
theorem c_tn0 {l1 : Int32} {R b : Nat} (g : tkC T n t D) (h9 : D 91 9 = nI i) (hi : i ≤ t) (hk : Kq T n i = 2) (hl : ∀ v, v < 10000 → (l1 < nI v ↔ R ≤ v)) (hb : b < 2 ^ 31) (hv : ¬ (R ≤ Vq T n i ∨ (Vq T n i < 31 ∧ b.testBit (Vq T n i) = true))) : ∃ D', fX4_takeNumber sh_L (sh_E kp) fu 91 l1 (nI b) D = some (nI 1, D') ∧ D' 91 10 = nI (Vq T n i) ∧ D' 91 9 = nI (i + 1) ∧ fr false D' D ∧ ∀ q j, ¬ (q = 91 ∧ (j = 9 ∨ j = 10)) → D' q j = D q j := by
  have ht := g.2.2.1
  have hV := Vq_lt hk
  refine ⟨ev_up (ev_up D 91 10 (nI (Vq T n i))) 91 9 (nI (i + 1)), ?_, by simp (disch := omega) only [upA, neF, eqTn, true_and, false_and, and_false, and_true, and_self, reduceIte], by simp (disch := omega) only [upA, neF, eqTn, true_and, false_and, and_false, and_true, and_self, reduceIte], fr_up (fr_up (fr_rf _) x10) x9, fun q j h => by rw [upA, if_neg (by omega), upA, if_neg (by omega)]⟩
  unfold fX4_takeNumber fX4_takeNumber_61
  rw [c_kind g h9 hi, bdS, i_2, hk, if_pos rfl, h9, e_91_6, l_108, ofN, if_pos (nI_lt (by omega) (by omega)), gdI (by omega) (by omega), nI_clamp (by omega), (g.2.1 i (by omega)).2.2 hk, if_neg (fun z => hv (.inl ((hl _ hV).mp z))), upJ _ _ _ _ (show (9 : Nat) ≠ 10 by decide), h9, i_1, addK]
  by_cases h3 : 31 ≤ Vq T n i
  · rw [i_31, if_pos (nI_le h3 (by omega))]
  · have h4 : b.testBit (Vq T n i) = false := by
      cases e : b.testBit (Vq T n i) with
      | false => rfl
      | true => exact absurd (.inr ⟨by omega, e⟩) hv
    rw [i_31, if_neg (nI_ge (by omega) (by omega)), e_isIn _ _ _ _ hb (by omega), bdS, h4, i_0, if_pos (by decide), upJ _ _ _ _ (show (9 : Nat) ≠ 10 by decide), h9, addK]
theorem hlN {m : Nat} (hm : m < 2 ^ 31) : ∀ v, v < 10000 → (nI m < nI v ↔ m + 1 ≤ v) := fun v hv => by
  rw [nI_ltI hm (by omega)]
  omega
theorem c_take {k : Nat} (g : tkC T n t D) (h9 : D 91 9 = nI i) (hi : i ≤ t) (hk2 : Kq T n i < 283) (hk : Kq T n i = k) : fX4_take sh_L (sh_E kp) fu 91 (nI k) D = some (nI 1, ev_up D 91 9 (nI (i + 1))) := by
  unfold fX4_take
  rw [c_kind g h9 hi, bdS, hk, if_pos rfl, h9, i_1, addK]
theorem c_take1 {k : Nat} (g : tkC T n t D) (h9 : D 91 9 = nI i) (hi : i ≤ t) (hk2 : Kq T n i < 283) (hk3 : k < 283) (hk : Kq T n i ≠ k) : ∃ D', fX4_take sh_L (sh_E kp) fu 91 (nI k) D = some (nI 0, D') ∧ eF T n 1 i D' ∧ fr true D' D ∧ ∀ q j, ¬ (q = 91 ∧ (j = 2 ∨ j = 3)) → D' q j = D q j := by
  obtain ⟨D', a1, a2, a3, a4⟩ := c_ref (kp := kp) (fu := fu) g h9 hi 1
  refine ⟨D', ?_, a2, a3, a4⟩
  unfold fX4_take
  rw [c_kind g h9 hi, bdS, if_neg (fun z => hk ((nI_eq (by omega) (by omega)).mp z)), i_1, a1, bdS]
  rfl
theorem c_add {G : List lw_C} (x : lw_C) (h : cd D G) (hG : G.length < 400) : ∃ D', fX1_add sh_L (sh_E kp) fu 93 (lw_cC x) D = some (nI 0, D') ∧ cd D' (G ++ [x]) ∧ fr false D' D ∧ ∀ j, D' 91 j = D 91 j := by
  refine ⟨ev_up (ev_up D 98 G.length (lw_cC x)) 93 1 (nI (G.length + 1)), ?_, ⟨by rw [upS, List.length_append]; rfl, fun j hj => ?_⟩, fr_up (fr_up (fr_rf _) (xc _)) xu, fun j => by rw [upN _ _ _ _ (by decide), upN _ _ _ _ (by decide)]⟩
  · unfold fX1_add
    rw [e_93_6, l_98, ofN, h.1, if_neg (nI_ge hG (by omega)), gdI hG (by omega), nI_clamp (by omega), upN _ _ _ _ (show (93 : Nat) ≠ 98 by decide), h.1, i_1, addK]
    rfl
  · rw [upN _ _ _ _ (by decide)]
    rw [List.length_append] at hj
    by_cases e : j < G.length
    · rw [upJ _ _ _ _ (by omega), List.getElem_append_left e]
      exact h.2 j e
    · have ej : j = G.length := by simp only [List.length_cons, List.length_nil] at hj; omega
      subst ej
      rw [upS, List.getElem_append_right (Nat.le_refl _)]
      simp
theorem c_unit {G : List lw_C} (h255 : ∀ i, T i ≤ 255) (g : tkC T n t D) (h9 : D 91 9 = nI i) (hi : i ≤ t) (h : cd D G) (hG : G.length < 400 ∨ i = t) : (un (Kq T n) (Vq T n) i = none → ∃ D', fX4_readUnit sh_L (sh_E kp) fu 91 D = some (nI 0, D') ∧ eF T n 1 i D' ∧ fr true D' D) ∧ ∀ u, un (Kq T n) (Vq T n) i = some u → ∃ D', fX4_readUnit sh_L (sh_E kp) fu 91 D = some (nI 1, D') ∧ i < t ∧ D' 91 9 = nI (i + 1) ∧ cd D' (G ++ [u]) ∧ fr false D' D := by
  have ht := g.2.2.1
  have hk := Kq_b (n := n) h255 i
  have hfin : ∀ (u : lw_C) (x : Int32), Kq T n i ≠ 0 → x = lw_cC u → ∃ D', ev_bd (fX1_add sh_L (sh_E kp) fu (sh_E kp (sh_E kp 91 0) 0) x D) (fun _ D8 => some ((1 : Int32), ev_up D8 91 9 (D8 91 9 + (1 : Int32)))) = some (nI 1, D') ∧ i < t ∧ D' 91 9 = nI (i + 1) ∧ cd D' (G ++ [u]) ∧ fr false D' D := by
    intro u x h0 hx
    have hlt := tkC_lt g hi h0
    obtain ⟨D', a1, a2, a3, a4⟩ := c_add (kp := kp) (fu := fu) u h (by omega)
    refine ⟨ev_up D' 91 9 (nI (i + 1)), ?_, hlt, upS _ _ _ _, cd_91 a2, fr_up a3 x9⟩
    rw [e_91_0, e_92_0, hx, a1, bdS, a4 9, h9, i_1, addK]
  unfold un fX4_readUnit
  rw [c_kind g h9 hi, bdS, i_2, h9, e_91_6, l_108, ofN]
  by_cases h2 : Kq T n i = 2
  · rw [if_pos h2]
    refine ⟨fun z => (by cases z), fun u hu => ?_⟩
    have hu : (0, Vq T n i) = u := by injection hu
    have hlt := tkC_lt g hi (by omega)
    obtain ⟨D', b⟩ := hfin u (nI (Vq T n i)) (by omega) (by rw [← hu]; rfl)
    refine ⟨D', ?_, b.2⟩
    rw [h2, if_pos rfl, if_neg (nI_ge (by omega) (by omega)), gdI (by omega) (by omega), nI_clamp (by omega), (g.2.1 i (by omega)).2.2 h2]
    exact b.1
  · rw [if_neg h2, if_neg (fun z => h2 ((nI_eq (by omega) (by omega)).mp z))]
    unfold fX4_readUnit_44
    rw [i_263, i_273]
    by_cases h3 : 263 ≤ Kq T n i ∧ Kq T n i ≤ 273
    · rw [if_pos h3, e_within _ _ _ _ h3.1 h3.2 (by decide), bdS, i_0, if_neg (by decide)]
      refine ⟨fun z => (by cases z), fun u hu => ?_⟩
      have hu : (1, Kq T n i - 263) = u := by injection hu
      have := hfin u (nI 10000 + nI (Kq T n i) - nI 263) (by omega) (by
        rw [addK, pk_sub (by omega), ← hu]
        show nI _ = nI (10000 + (Kq T n i - 263))
        exact congrArg nI (by omega))
      rw [i_10000]
      exact this
    · rw [if_neg h3, e_within0 _ _ _ _ (by
        by_cases q : 263 ≤ Kq T n i
        · exact .inr (nI_lt (by omega) (by omega))
        · exact .inl (nI_lt (by omega) (by omega))), bdS, i_0, if_pos rfl]
      obtain ⟨D', a1, a2, a3, _⟩ := c_ref (kp := kp) (fu := fu) g h9 hi 1
      refine ⟨fun _ => ⟨D', ?_, a2, a3⟩, fun u hu => (by cases hu)⟩
      rw [i_1, a1, bdS]
      rfl
end CNum
/-- how reading ends in the class -/
def oC {α : Type} (T : Nat → Nat) (n t : Nat) (D0 : ev_D) (P : α → ev_D → Prop) (r : tR α) (res : ev_Op) : Prop := match r with
  | .inl (f, i) => ∃ D', res = some (nI 0, D') ∧ eF T n f i D' ∧ fr true D' D0
  | .inr (j, a) => ∃ D', res = some (nI 1, D') ∧ j ≤ t ∧ D' 91 9 = nI j ∧ P a D' ∧ fr false D' D0
def wI (w : Option Nat) : Int32 := match w with
  | none => mi1
  | some k => nI (10100 + k)
def wL (pre : List lw_C) (w : Option Nat) (l : List lw_C) : List lw_C := match w with
  | none => l
  | some k => pre ++ l ++ [(2, k)]
def cont (K V : Nat → Nat) (e : Nat) (pre : List lw_C) (w : Option Nat) (r : tR (List lw_C)) : tR (List lw_C) := match r with
  | .inl x => .inl x
  | .inr (j, l) => smL K V e j (wL pre w l)
def stA (kp fu : Nat) (T : Nat → Nat) (n t : Nat) (D0 : ev_D) (G : List lw_C) (e d : Nat) : Prop := ∀ (i : Nat) (pre acc : List lw_C) (w : Option Nat) (l3 l4 nf f : Nat) (D : ev_D), i ≤ t → t < i + d → t < i + e → t < i + nf → t < i + f → l3 < i → l4 < i → fr false D D0 → D 91 9 = nI i → cd D (G ++ pre ++ acc) → G.length + pre.length + acc.length + w.toList.length ≤ i → (w = none → pre = []) → (∀ k, w = some k → k ≤ 2) → oC T n t D0 (fun l D' => cd D' (G ++ l)) (cont (Kq T n) (Vq T n) e pre w (prL (Kq T n) (Vq T n) d i acc)) (fX4_readNumber_42 sh_L (sh_E kp) fu (fX4_readNumber_6 sh_L (sh_E kp) fu nf) f 91 (wI w) (nI l3) (nI l4) D)
def unL (K V : Nat → Nat) (d i : Nat) (acc : List lw_C) (tm : Bool) : tR (List lw_C) := match un K V i with
  | none => .inl (1, i)
  | some u => prL K V d (i + 1) (acc ++ (if tm = true then [u, (2, 3)] else [u]))
section CSum
variable {kp fu n t : Nat} {T : Nat → Nat} {D0 : ev_D} {G : List lw_C}
theorem c_B (hfu : 30000 ≤ fu) (h255 : ∀ i, T i ≤ 255) (g : tkC T n t D0) {e d nf : Nat} (hA : stA kp fu T n t D0 G e d) {i : Nat} {pre acc : List lw_C} {w : Option Nat} {tm : Bool} {l3 : Nat} {D : ev_D} (hi : i ≤ t) (h1 : t < i + 1 + d) (h2 : t < i + 1 + e) (h3 : t < i + 1 + nf) (h4 : l3 < i) (hf : fr false D D0) (h9 : D 91 9 = nI i) (hc : cd D (G ++ pre ++ acc)) (hG : G.length + pre.length + acc.length + w.toList.length + tm.toNat ≤ i) (hw : w = none → pre = []) (hw2 : ∀ k, w = some k → k ≤ 2) : oC T n t D0 (fun l D' => cd D' (G ++ l)) (cont (Kq T n) (Vq T n) e pre w (unL (Kq T n) (Vq T n) d i acc tm)) (fX4_readNumber_6 sh_L (sh_E kp) fu (nf + 1) 91 (nI tm.toNat) (wI w) (nI l3) D) := by
  have gD := tkC_fr hf g
  have ht := g.2.2.1
  have hlen : (G ++ pre ++ acc).length = G.length + pre.length + acc.length := by rw [List.length_append, List.length_append]
  obtain ⟨u1, u2⟩ := c_unit (kp := kp) (fu := fu) h255 gD h9 hi hc (by omega)
  rw [fX4_readNumber_6, i_400, if_neg (nI_ge (by omega) (by omega))]
  unfold unL
  cases e1 : un (Kq T n) (Vq T n) i with
  | none =>
    obtain ⟨D', a1, a2, a3⟩ := u1 e1
    show ∃ D', _
    rw [a1, bdS, i_0, if_pos rfl]
    exact ⟨D', rfl, a2, fr_tr hf a3⟩
  | some u =>
    obtain ⟨D', a1, a2, a3, a4, a5⟩ := u2 u e1
    rw [a1, bdS, i_0, if_neg (show ¬ nI 1 = nI 0 by decide)]
    cases tm with
    | false =>
      rw [if_pos (show nI (Bool.toNat false) = nI 0 from rfl)]
      refine hA (i + 1) pre (acc ++ [u]) w l3 0 nf fu D' (by omega) (by omega) (by omega) (by omega) (by omega) (by omega) (by omega) (fr_tr hf a5) a3 (by rw [← List.append_assoc]; exact a4) ?_ hw hw2
      rw [List.length_append]
      simp only [List.length_cons, List.length_nil]
      simp only [Bool.toNat_false] at hG
      omega
    | true =>
      simp only [Bool.toNat_true] at hG
      obtain ⟨D2, b1, b2, b3, b4⟩ := c_add (kp := kp) (fu := fu) (2, 3) a4 (by rw [List.length_append, hlen]; simp only [List.length_cons, List.length_nil]; omega)
      rw [if_neg (show ¬ nI (Bool.toNat true) = nI 0 by decide), e_91_0, e_92_0, i_10103, show nI 10103 = lw_cC (2, 3) from rfl, b1, bdS]
      refine hA (i + 1) pre (acc ++ [u, (2, 3)]) w l3 0 nf fu D2 (by omega) (by omega) (by omega) (by omega) (by omega) (by omega) (by omega) (fr_tr hf (fr_tr a5 b3)) (by rw [b4]; exact a3) ?_ ?_ hw hw2
      · have : G ++ pre ++ (acc ++ [u, (2, 3)]) = G ++ pre ++ acc ++ [u] ++ [(2, 3)] := by simp
        rw [this]; exact b2
      · rw [List.length_append]
        simp only [List.length_cons, List.length_nil]
        omega
theorem c_A (hfu : 30000 ≤ fu) (h255 : ∀ i, T i ≤ 255) (g : tkC T n t D0) : ∀ e d, stA kp fu T n t D0 G e d := by
  have ht := g.2.2.1
  intro e
  induction e with
  | zero =>
    intro d i pre acc w l3 l4 nf f D hi h1 h2
    omega
  | succ e ihe =>
    intro d
    induction d with
    | zero =>
      intro i pre acc w l3 l4 nf f D hi h1 h2
      omega
    | succ d ihd =>
      intro i pre acc w l3 l4 nf f D hi h1 h2 h3 hf h4 h5 hfr h9 hc hG hw hw2
      obtain ⟨f, rfl⟩ : ∃ f', f = f' + 1 := ⟨f - 1, by omega⟩
      obtain ⟨nf, rfl⟩ : ∃ f', nf = f' + 1 := ⟨nf - 1, by omega⟩
      have gD := tkC_fr hfr g
      have hk := Kq_b (n := n) h255 i
      have hlen : (G ++ pre ++ acc).length = G.length + pre.length + acc.length := by rw [List.length_append, List.length_append]
      rw [fX4_readNumber_42, i_400, if_neg (nI_ge (by omega) (by omega)), c_kind gD h9 hi, bdS, i_47, prL]
      by_cases k47 : Kq T n i = 47
      · have hlt := tkC_lt gD hi (by omega)
        have hk1 := Kq_b (n := n) h255 (i + 1)
        have g1 : tkC T n t (ev_up D 91 9 (nI (i + 1))) := tkC_91 (by decide) gD
        have f1 : fr false (ev_up D 91 9 (nI (i + 1))) D0 := fr_up hfr x9
        rw [if_neg (by omega), if_pos k47, if_pos (congrArg nI k47), h9, i_1, addK, i_9999]
        by_cases k2 : Kq T n (i + 1) = 2
        · rw [if_pos k2]
          have hV := Vq_lt k2
          by_cases v0 : Vq T n (i + 1) = 0
          · rw [if_pos v0]
            obtain ⟨D', a1, a2, a3⟩ := c_tn2 (kp := kp) (fu := fu) (R := 10000) (b := 1) g1 (upS _ _ _ _) (by omega) k2 (hlN (by decide)) (by decide) (.inr ⟨by omega, by rw [v0]; decide⟩)
            show ∃ D', _
            rw [a1, bdS, i_0, if_pos rfl]
            exact ⟨D', rfl, a2, fr_tr f1 a3⟩
          · rw [if_neg v0]
            obtain ⟨D', a1, a2, a3, a4, a5⟩ := c_tn0 (kp := kp) (fu := fu) (R := 10000) (b := 1) g1 (upS _ _ _ _) (by omega) k2 (hlN (by decide)) (by decide) (by
              rintro (z | z)
              · omega
              · exact v0 (tb1 _ z.1 z.2))
            have hlt2 := tkC_lt g1 (show i + 1 ≤ t by omega) (by omega)
            have c1 : cd D' (G ++ pre ++ acc) := cd_of (by rw [a5 _ _ (by omega), upN _ _ _ _ (by decide)]) (fun j => by rw [a5 _ _ (by omega), upN _ _ _ _ (by decide)]) hc
            obtain ⟨D2, b1, b2, b3, b4⟩ := c_add (kp := kp) (fu := fu) (0, Vq T n (i + 1)) c1 (by omega)
            obtain ⟨D3, d1, d2, d3, d4⟩ := c_add (kp := kp) (fu := fu) (2, 4) b2 (by rw [List.length_append, hlen]; simp only [List.length_cons, List.length_nil]; omega)
            rw [a1, bdS, i_0, if_neg (show ¬ nI 1 = nI 0 by decide), a2, e_91_0, e_92_0, show nI (Vq T n (i + 1)) = lw_cC (0, Vq T n (i + 1)) from rfl, b1, bdS, i_10104, show nI 10104 = lw_cC (2, 4) from rfl, d1, bdS, addK]
            refine ihd (i + 2) pre (acc ++ [(0, Vq T n (i + 1)), (2, 4)]) w l3 (l4 + 1) (nf + 1) f D3 (by omega) (by omega) (by omega) (by omega) (by omega) (by omega) (by omega) (fr_tr f1 (fr_tr a4 (fr_tr b3 d3))) (by rw [d4, b4]; exact a3) ?_ ?_ hw hw2
            · have : G ++ pre ++ (acc ++ [(0, Vq T n (i + 1)), (2, 4)]) = G ++ pre ++ acc ++ [(0, Vq T n (i + 1))] ++ [(2, 4)] := by simp
              rw [this]; exact d2
            · rw [List.length_append]
              simp only [List.length_cons, List.length_nil]
              omega
        · rw [if_neg k2]
          obtain ⟨D', a1, a2, a3⟩ := c_tn1 (kp := kp) (fu := fu) (l1 := nI 9999) (l2 := nI 1) g1 (upS _ _ _ _) (by omega) hk1 k2
          show ∃ D', _
          rw [a1, bdS, i_0, if_pos rfl]
          exact ⟨D', rfl, a2, fr_tr f1 a3⟩
      · rw [if_neg (fun z => k47 ((nI_eq (by omega) (by omega)).mp z))]
        unfold fX4_readNumber_115
        rw [c_kind gD h9 hi, bdS, i_42]
        by_cases k42 : Kq T n i = 42
        · have hlt := tkC_lt gD hi (by omega)
          rw [if_pos k42, if_pos (congrArg nI k42)]
          unfold fX4_readNumber_129 fX4_readNumber_189
          rw [i_1, i_0, if_neg (show ¬ nI 1 = nI 0 by decide), h9, addK, addK]
          have := c_B (kp := kp) (nf := nf) hfu h255 g ihd (i := i + 1) (pre := pre) (acc := acc) (w := w) (tm := true) (l3 := l3 + 1) (D := ev_up D 91 9 (nI (i + 1))) (by omega) (by omega) (by omega) (by omega) (by omega) (fr_up hfr x9) (upS _ _ _ _) (cd_91 hc) (by simp only [Bool.toNat_true]; omega) hw hw2
          exact this
        · rw [if_neg k42, if_neg k47, if_neg (fun z => k42 ((nI_eq (by omega) (by omega)).mp z))]
          unfold fX4_readNumber_129
          rw [i_0, if_pos rfl]
          have hgo : ∀ (D' : ev_D), fr false D' D0 → D' 91 9 = nI i → cd D' (G ++ wL pre w acc) → oC T n t D0 (fun l D' => cd D' (G ++ l)) (smL (Kq T n) (Vq T n) (e + 1) i (wL pre w acc)) (fX4_readNumber_150 sh_L (sh_E kp) fu (fX4_readNumber_6 sh_L (sh_E kp) fu (nf + 1)) 91 (nI 0) (nI l3) D') := by
            intro D' hfr' h9' hc'
            have gD' := tkC_fr hfr' g
            have hwl : (wL pre w acc).length ≤ pre.length + acc.length + w.toList.length := by
              cases w with
              | none => show acc.length ≤ _; omega
              | some k => show (pre ++ acc ++ [(2, k)]).length ≤ _; simp only [List.length_append, List.length_cons, List.length_nil, Option.toList_some]; omega
            have hnext : ∀ k, k ≤ 2 → Kq T n i ≠ 0 → oC T n t D0 (fun l D' => cd D' (G ++ l)) (cont (Kq T n) (Vq T n) e (wL pre w acc) (some k) (prd (Kq T n) (Vq T n) (i + 1))) (fX4_readNumber_6 sh_L (sh_E kp) fu (nf + 1) 91 (nI 0) (nI (10100 + k)) (nI (l3 + 1)) (ev_up D' 91 9 (nI (i + 1)))) := by
              intro k hk2 h0
              have hlt := tkC_lt gD hi h0
              exact c_B (kp := kp) (nf := nf) hfu h255 g (ihe 402) (i := i + 1) (pre := wL pre w acc) (acc := []) (w := some k) (tm := false) (l3 := l3 + 1) (D := ev_up D' 91 9 (nI (i + 1))) (by omega) (by omega) (by omega) (by omega) (by omega) (fr_up hfr' x9) (upS _ _ _ _) (cd_91 (by rw [List.append_nil]; exact hc')) (by simp only [List.length_nil, Option.toList_some, List.length_cons, Bool.toNat_false]; omega) (fun z => by cases z) (fun k' z => by cases z; exact hk2)
            unfold fX4_readNumber_150 fX4_readNumber_170 fX4_readNumber_188 fX4_readNumber_189
            rw [c_kind gD' h9' hi, bdS, i_43, i_45, smL]
            by_cases k43 : Kq T n i = 43
            · rw [if_pos (.inl k43), if_pos (congrArg nI k43), c_kind gD' h9' hi, bdS, if_pos (congrArg nI k43), h9', i_1, addK, addK, i_10101, if_pos k43]
              exact hnext 1 (by decide) (by omega)
            · rw [if_neg (fun z => k43 ((nI_eq (by omega) (by omega)).mp z)), c_kind gD' h9' hi, bdS]
              by_cases k45 : Kq T n i = 45
              · rw [if_pos (.inr k45), if_pos (congrArg nI k45), c_kind gD' h9' hi, bdS, if_neg (fun z => k43 ((nI_eq (by omega) (by omega)).mp z)), h9', i_1, addK, addK, i_10102, if_neg k43]
                exact hnext 2 (by decide) (by omega)
              · rw [if_neg (fun z => z.elim k43 k45), if_neg (fun z => k45 ((nI_eq (by omega) (by omega)).mp z))]
                exact ⟨D', rfl, hi, h9', hc', hfr'⟩
          cases w with
          | none =>
            rw [show wI none = mi1 from rfl, mm1, if_pos rfl]
            refine hgo D hfr h9 ?_
            have := hw rfl
            subst this
            rw [List.append_nil] at hc
            exact hc
          | some k =>
            have hk2 := hw2 k rfl
            simp only [Option.toList_some, List.length_cons, List.length_nil] at hG
            obtain ⟨D2, b1, b2, b3, b4⟩ := c_add (kp := kp) (fu := fu) (2, k) hc (by omega)
            rw [show wI (some k) = nI (10100 + k) from rfl, mm1, if_neg (m1N (by omega)), e_91_0, e_92_0, show nI (10100 + k) = lw_cC (2, k) from rfl, b1, bdS]
            refine hgo D2 (fr_tr hfr b3) (by rw [b4]; exact h9) ?_
            show cd D2 (G ++ (pre ++ acc ++ [(2, k)]))
            rw [← List.append_assoc, ← List.append_assoc]
            exact b2
theorem c_sum (hfu : 30000 ≤ fu) (h255 : ∀ i, T i ≤ 255) (g : tkC T n t D0) {i : Nat} (h9 : D0 91 9 = nI i) (hi : i ≤ t) (hc : cd D0 G) (hG : G.length + 1 ≤ i) : oC T n t D0 (fun l D' => cd D' (G ++ l)) (sm (Kq T n) (Vq T n) i) (fX4_readNumber sh_L (sh_E kp) fu 91 D0) := by
  have ht := g.2.2.1
  obtain ⟨f, rfl⟩ : ∃ f', fu = f' + 1 := ⟨fu - 1, by omega⟩
  exact c_B (kp := kp) (fu := f + 1) (nf := f) (e := 402) (d := 402) hfu h255 g (c_A hfu h255 g 402 402) (i := i) (pre := []) (acc := []) (w := none) (tm := false) (l3 := 0) (D := D0) hi (by omega) (by omega) (by omega) (by omega) (fr_rf _) h9 (by rw [List.append_nil, List.append_nil]; exact hc) (by simp only [List.length_nil, Option.toList_none, Bool.toNat_false]; omega) (fun _ => rfl) (fun k z => by cases z)
end CSum
