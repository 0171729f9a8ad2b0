/-! ===== text: the class reads lines ===== -/
def fd (e : Bool) (D' D : ev_D) : Prop := ∀ q j, ¬ (q = 91 ∧ (j = 9 ∨ j = 10 ∨ (e = true ∧ (j = 2 ∨ j = 3)))) → ¬ (93 ≤ q ∧ q ≤ 105 ∧ ¬ ((q = 100 ∨ q = 102 ∨ q = 104) ∧ j = 1)) → D' q j = D q j
theorem fd_rf {e : Bool} (D : ev_D) : fd e D D := fun _ _ _ _ => rfl
theorem nfd {e : Bool} {q j : Nat} (h : ¬ (q = 91 ∧ (j = 2 ∨ j = 3 ∨ j = 9 ∨ j = 10))) : ¬ (q = 91 ∧ (j = 9 ∨ j = 10 ∨ (e = true ∧ (j = 2 ∨ j = 3)))) := fun y => h ⟨y.1, by
  rcases y.2 with w | w | w
  · exact .inr (.inr (.inl w))
  · exact .inr (.inr (.inr w))
  · rcases w.2 with w | w
    · exact .inl w
    · exact .inr (.inl w)⟩
theorem fd_tr {e : Bool} {D1 D2 D3 : ev_D} (h1 : fd false D2 D1) (h2 : fd e D3 D2) : fd e D3 D1 := fun q j a b => (h2 q j a b).trans (h1 q j (fun z => a ⟨z.1, by
  rcases z.2 with w | w | w
  · exact .inl w
  · exact .inr (.inl w)
  · exact absurd w.1 (by decide)⟩) b)
theorem fd_fr {e : Bool} {D1 D : ev_D} (h : fr e D1 D) : fd e D1 D := fun q j a b => h q j (fun z => z.elim a (fun y => by omega))
theorem fd_up {e : Bool} {D1 D : ev_D} {q i : Nat} {v : Int32} (h : fd e D1 D) (hx : 93 ≤ q ∧ q ≤ 105 ∧ ¬ ((q = 100 ∨ q = 102 ∨ q = 104) ∧ i = 1)) : fd e (ev_up D1 q i v) D := fun k j a b => by
  rw [upA, if_neg (fun z => b (by rw [z.1, z.2]; exact hx))]
  exact h k j a b
theorem fd_9 {e : Bool} {D1 D : ev_D} {v : Int32} (h : fd e D1 D) : fd e (ev_up D1 91 9 v) D := fun k j a b => by
  rw [upA, if_neg (fun z => a ⟨z.1, .inl z.2⟩)]
  exact h k j a b
/-- how a line, or all lines, end in the class -/
def oD {α : Type} (T : Nat → Nat) (n t : Nat) (D0 : ev_D) (P : Nat → α → ev_D → Prop) (r : tR α) (res : ev_Op) : Prop := match r with
  | .inl (f, i) => ∃ D', res = some (nI 0, D') ∧ eF T n f i D' ∧ fd true D' D0
  | .inr (j, a) => ∃ D', res = some (nI 1, D') ∧ j ≤ t ∧ D' 91 9 = nI j ∧ P j a D' ∧ fd false D' D0
theorem oD_tr {α : Type} {T : Nat → Nat} {n t : Nat} {P : Nat → α → ev_D → Prop} {D1 D0 : ev_D} {r : tR α} {x : ev_Op} (hf : fd false D1 D0) (h : oD T n t D1 P r x) : oD T n t D0 P r x := by
  cases r with
  | inl y =>
    obtain ⟨D', a1, a2, a3⟩ := h
    exact ⟨D', a1, a2, fd_tr hf a3⟩
  | inr y =>
    obtain ⟨D', a1, a2, a3, a4, a5⟩ := h
    exact ⟨D', a1, a2, a3, a4, fd_tr hf a5⟩
section CLn
variable {kp fu n t : Nat} {T : Nat → Nat}
theorem tkC_fd {e : Bool} {D' D : ev_D} (h : fd e D' D) (g : tkC T n t D) : tkC T n t D' := tkC_of (fun q j z => h q j (nfd (by omega)) (by omega)) g
/-- all lines, whatever a line is -/
theorem c_lns {α : Type} (hfu : 30000 ≤ fu) (h255 : ∀ i, T i ≤ 255) {k : Nat} (hk : k ≤ 3) {bg : Nat → Bool} {one : Nat → tR α} {rd : ev_D → ev_Op} {P : Nat → List α → ev_D → Prop}
    (hb : ∀ (i : Nat) (D : ev_D), tkC T n t D → D 91 9 = nI i → i ≤ t → fX4_mayBegin sh_L (sh_E kp) fu 91 (nI k) D = some (nI (bg (Kq T n i)).toNat, D))
    (hrd : ∀ (X : Int32 → ev_D → ev_Op) (D : ev_D), (if nI k = nI 0 then ev_bd (fX4_readLaw sh_L (sh_E kp) fu 91 D) X else if nI k = nI 1 then ev_bd (fX4_readRope sh_L (sh_E kp) fu 91 D) X else if nI k = nI 2 then ev_bd (fX4_readDay sh_L (sh_E kp) fu 91 D) X else ev_bd (fX4_readChange sh_L (sh_E kp) fu 91 D) X) = ev_bd (rd D) X)
    (hone : ∀ (i : Nat) (ls : List α) (D : ev_D), ls.length < 16 → i ≤ t → bg (Kq T n i) = true → tkC T n t D → D 91 9 = nI i → P i ls D → oD T n t D (fun j a D' => P j (ls ++ [a]) D') (one i) (rd D))
    (hP : ∀ (i : Nat) (ls : List α) (D : ev_D) (v : Int32), P i ls D → P (i + 1) ls (ev_up D 91 9 v)) : ∀ (d i : Nat) (ls : List α) (nf : Nat) (D : ev_D), i ≤ t → 16 < ls.length + d → 16 < ls.length + nf → ls.length ≤ 16 → tkC T n t D → D 91 9 = nI i → P i ls D → (match lns (Kq T n) bg one d i ls with
      | .inl (f, i') => ∃ D', fX4_read_41 sh_L (sh_E kp) fu nf 91 (nI k) (nI ls.length) D = some (mi1, D') ∧ eF T n f i' D' ∧ fd true D' D
      | .inr (j, ls') => ∃ D', fX4_read_41 sh_L (sh_E kp) fu nf 91 (nI k) (nI ls.length) D = some (nI ls'.length, D') ∧ P j ls' D' ∧ ls'.length ≤ 16 ∧ fd false D' D) := by
  intro d
  induction d with
  | zero => intro i ls nf D hi h1 h2 h3; omega
  | succ d ih =>
    intro i ls nf D hi h1 h2 h3 g h9 hp
    obtain ⟨nf, rfl⟩ : ∃ f', nf = f' + 1 := ⟨nf - 1, by omega⟩
    have hK := Kq_b (n := n) h255 i
    rw [fX4_read_41, mm1, i_16, if_neg (nI_nlt h3 (by omega)), c_kind g h9 hi, bdS, i_0, lns]
    by_cases k0 : Kq T n i = 0
    · rw [if_pos k0, if_pos (congrArg nI k0)]
      exact ⟨D, rfl, hp, h3, fd_rf _⟩
    · rw [if_neg k0, if_neg (fun z => k0 ((nI_eq (by omega) (by omega)).mp z)), hb i D g h9 hi, bdS, tg]
      cases hbg : bg (Kq T n i) with
      | false =>
        obtain ⟨D', a1, a2, a3, _⟩ := c_ref (kp := kp) (fu := fu) g h9 hi 1
        rw [if_pos rfl, if_neg (by decide), i_1, a1, bdS]
        exact ⟨D', rfl, a2, fd_fr a3⟩
      | true =>
        rw [if_neg (by decide), if_pos rfl]
        by_cases l16 : ls.length = 16
        · obtain ⟨D', a1, a2, a3, _⟩ := c_ref (kp := kp) (fu := fu) g h9 hi 3
          rw [if_pos l16, if_pos (congrArg nI l16), i_3, a1, bdS]
          exact ⟨D', rfl, a2, fd_fr a3⟩
        · rw [if_neg l16, if_neg (fun z => l16 ((nI_eq (by omega) (by omega)).mp z)), i_1, i_2, hrd]
          have ho := hone i ls D (by omega) hi hbg g h9 hp
          cases e1 : one i with
          | inl x =>
            rw [e1] at ho
            obtain ⟨D', a1, a2, a3⟩ := ho
            show ∃ D', _
            rw [a1, bdS]
            unfold fX4_read_125
            rw [i_0, if_pos rfl]
            exact ⟨D', rfl, a2, a3⟩
          | inr x =>
            obtain ⟨j, a⟩ := x
            rw [e1] at ho
            obtain ⟨D1, a1, a2, a3, a4, a5⟩ := ho
            have g1 := tkC_fd a5 g
            have hKj := Kq_b (n := n) h255 j
            rw [a1, bdS]
            unfold fX4_read_125
            rw [i_0, if_neg (show ¬ nI 1 = nI 0 by decide), i_59]
            by_cases k59 : Kq T n j = 59
            · have hlt := tkC_lt g1 a2 (by omega)
              rw [c_take g1 a3 a2 hKj k59, bdS, if_neg (show ¬ nI 1 = nI 0 by decide), i_1, addK]
              have hl : (ls ++ [a]).length = ls.length + 1 := by rw [List.length_append]; rfl
              have hI := ih (j + 1) (ls ++ [a]) nf (ev_up D1 91 9 (nI (j + 1))) (by omega) (by omega) (by omega) (by omega) (tkC_91 (by decide) g1) (upS _ _ _ _) (hP j (ls ++ [a]) D1 _ a4)
              rw [hl] at hI
              have f1 : fd false (ev_up D1 91 9 (nI (j + 1))) D := fd_9 a5
              show (match (if Kq T n j = 59 then lns (Kq T n) bg one d (j + 1) (ls ++ [a]) else .inl (1, j)) with
                | .inl (f, i') => _
                | .inr (j, ls') => _)
              rw [if_pos k59]
              cases e2 : lns (Kq T n) bg one d (j + 1) (ls ++ [a]) with
              | inl y =>
                rw [e2] at hI
                obtain ⟨D', b1, b2, b3⟩ := hI
                exact ⟨D', b1, b2, fd_tr f1 b3⟩
              | inr y =>
                rw [e2] at hI
                obtain ⟨D', b1, b2, b3, b4⟩ := hI
                exact ⟨D', b1, b2, b3, fd_tr f1 b4⟩
            · obtain ⟨D', b1, b2, b3, _⟩ := c_take1 (kp := kp) (fu := fu) (k := 59) g1 a3 a2 hKj (by decide) k59
              show (match (if Kq T n j = 59 then lns (Kq T n) bg one d (j + 1) (ls ++ [a]) else .inl (1, j)) with
                | .inl (f, i') => _
                | .inr (j, ls') => _)
              rw [if_neg k59]
              rw [b1, bdS, if_pos rfl]
              exact ⟨D', rfl, b2, fd_tr a5 (fd_fr b3)⟩
/-! rows of numbers: ropes, days, changes -/
def rwP {α : Type} (b : Nat) (f : α → Int32 × Int32 × Int32) (_ : Nat) (ls : List α) (D : ev_D) : Prop := D b 0 = nI ls.length ∧ D b 1 = nI 16 ∧ ∀ q (h : q < ls.length), D (b + 1) (3 * q) = (f ls[q]).1 ∧ D (b + 1) (3 * q + 1) = (f ls[q]).2.1 ∧ D (b + 1) (3 * q + 2) = (f ls[q]).2.2
theorem rwP_k {α : Type} {b : Nat} {f : α → Int32 × Int32 × Int32} (hb : 93 ≤ b ∧ b + 1 ≤ 105) (i : Nat) (ls : List α) (D D' : ev_D) (h : ∀ q j, 93 ≤ q → q ≤ 105 → D' q j = D q j) (g : rwP b f i ls D) : rwP b f (i + 1) ls D' := ⟨by rw [h b 0 hb.1 (by omega)]; exact g.1, by rw [h b 1 hb.1 (by omega)]; exact g.2.1, fun q hq => by rw [h (b + 1) _ (by omega) hb.2, h (b + 1) _ (by omega) hb.2, h (b + 1) _ (by omega) hb.2]; exact g.2.2 q hq⟩
theorem rwP_add {α : Type} {b : Nat} {f : α → Int32 × Int32 × Int32} (hb : b = 100 ∨ b = 102 ∨ b = 104) {i j : Nat} {ls : List α} {D : ev_D} (g : rwP b f i ls D) (hl : ls.length < 16) (hE : sh_E kp b 2 = b + 1) (hL : sh_L (b + 1) = 3 * 16) (a : α) : ∃ D', fX6_add sh_L (sh_E kp) fu b (f a).1 (f a).2.1 (f a).2.2 D = some (nI (ls.length + 1), D') ∧ rwP b f j (ls ++ [a]) D' ∧ fd false D' D ∧ ∀ q, D' 91 q = D 91 q := by
  refine ⟨_, e_add (M := 16) _ _ _ hE hL g.1 g.2.1 hl (by decide), ⟨by rw [upS, List.length_append]; rfl, ?_, fun q hq => ?_⟩, ?_, fun q => ?_⟩
  · rw [upJ _ _ _ _ (by decide), upN _ _ _ _ (by omega), upN _ _ _ _ (by omega), upN _ _ _ _ (by omega)]
    exact g.2.1
  · rw [List.length_append] at hq
    simp only [List.length_cons, List.length_nil] at hq
    by_cases e : q < ls.length
    · rw [List.getElem_append_left e]
      obtain ⟨c1, c2, c3⟩ := g.2.2 q e
      refine ⟨?_, ?_, ?_⟩
      · rw [upN _ _ _ _ (by omega), upJ _ _ _ _ (by omega), upJ _ _ _ _ (by omega), upJ _ _ _ _ (by omega)]; exact c1
      · rw [upN _ _ _ _ (by omega), upJ _ _ _ _ (by omega), upJ _ _ _ _ (by omega), upJ _ _ _ _ (by omega)]; exact c2
      · rw [upN _ _ _ _ (by omega), upJ _ _ _ _ (by omega), upJ _ _ _ _ (by omega), upJ _ _ _ _ (by omega)]; exact c3
    · have eq : q = ls.length := by omega
      subst eq
      rw [List.getElem_append_right (Nat.le_refl _)]
      refine ⟨?_, ?_, ?_⟩
      · rw [upN _ _ _ _ (by omega), upJ _ _ _ _ (by omega), upJ _ _ _ _ (by omega), upS]; simp
      · rw [upN _ _ _ _ (by omega), upJ _ _ _ _ (by omega), upS]; simp
      · rw [upN _ _ _ _ (by omega), upS]; simp
  · exact fd_up (fd_up (fd_up (fd_up (fd_rf _) (by omega)) (by omega)) (by omega)) (by omega)
  · rw [upN _ _ _ _ (by omega), upN _ _ _ _ (by omega), upN _ _ _ _ (by omega), upN _ _ _ _ (by omega)]
theorem rwP_91 {α : Type} {b : Nat} {f : α → Int32 × Int32 × Int32} (hb : 100 ≤ b ∧ b + 1 ≤ 105) {i : Nat} {ls : List α} {D D' : ev_D} (h : ∀ q j, ¬ q = 91 → D' q j = D q j) (g : rwP b f i ls D) : rwP b f i ls D' := ⟨by rw [h b 0 (by omega)]; exact g.1, by rw [h b 1 (by omega)]; exact g.2.1, fun q hq => by rw [h (b + 1) _ (by omega), h (b + 1) _ (by omega), h (b + 1) _ (by omega)]; exact g.2.2 q hq⟩
theorem hlR {R : Nat} (hR : R ≤ 10) : ∀ v, v < 10000 → (nI R - nI 1 < nI v ↔ R ≤ v) := by
  intro v hv
  cases R with
  | zero =>
    have : nI 0 - nI 1 = mi1 := by decide
    rw [this]
    exact ⟨fun _ => Nat.zero_le _, fun _ => m1_lt (by omega)⟩
  | succ R =>
    rw [pk_sub (by omega), Nat.add_sub_cancel, nI_ltI (by omega) (by omega)]
    omega
/-- a rope -/
theorem c_rope (h255 : ∀ i, T i ≤ 255) {R : Nat} (hR : R ≤ 10) {i : Nat} {ls : List (Nat × Nat)} {D : ev_D} (hl : ls.length < 16) (hi : i ≤ t) (h0 : Kq T n i ≠ 0) (g : tkC T n t D) (h9 : D 91 9 = nI i) (h11 : D 91 11 = nI R) (hp : rwP 100 (fun (a : Nat × Nat) => (nI a.1, nI a.2, nI 0)) i ls D) : oD T n t D (fun j a D' => rwP 100 (fun (a : Nat × Nat) => (nI a.1, nI a.2, nI 0)) j (ls ++ [a]) D' ∧ D' 91 11 = nI R) (lnR (Kq T n) (Vq T n) R i) (fX4_readRope sh_L (sh_E kp) fu 91 D) := by
  have hlt := tkC_lt g hi h0
  have ht := g.2.2.1
  have hK1 := Kq_b (n := n) h255 (i + 1)
  have hK2 := Kq_b (n := n) h255 (i + 2)
  have hK3 := Kq_b (n := n) h255 (i + 3)
  have g1 : tkC T n t (ev_up D 91 9 (nI (i + 1))) := tkC_91 (by decide) g
  have f1 : fd false (ev_up D 91 9 (nI (i + 1))) D := fd_9 (fd_rf _)
  unfold lnR fX4_readRope
  rw [h9, i_1, addK, i_0, upJ _ _ _ _ (show (11 : Nat) ≠ 9 by decide), h11, i_275]
  by_cases k1 : Kq T n (i + 1) = 2
  · have hlt1 := tkC_lt g1 (show i + 1 ≤ t by omega) (by omega)
    have hV1 := Vq_lt k1
    rw [if_pos k1]
    by_cases v1 : Vq T n (i + 1) < R
    · obtain ⟨D1, a1, a2, a3, a4, a5⟩ := c_tn0 (kp := kp) (fu := fu) (R := R) (b := 0) g1 (upS _ _ _ _) (by omega) k1 (hlR hR) (by decide) (by
        rintro (z | z)
        · omega
        · rw [Nat.zero_testBit] at z; exact absurd z.2 (by decide))
      have g2 := tkC_fr a4 g1
      have e11 : D1 91 11 = nI R := by rw [a5 _ _ (by omega), upJ _ _ _ _ (by decide), h11]
      rw [if_pos v1, a1, bdS, if_neg (show ¬ nI 1 = nI 0 by decide), a2]
      by_cases k2 : Kq T n (i + 2) = 275
      · have hlt2 := tkC_lt g2 (show i + 2 ≤ t by omega) (by omega)
        rw [if_pos k2, c_take g2 a3 (by omega) hK2 k2, bdS, if_neg (show ¬ nI 1 = nI 0 by decide), upJ _ _ _ _ (show (11 : Nat) ≠ 9 by decide), e11, i_31, nI_shl (by omega)]
        have g3 : tkC T n t (ev_up D1 91 9 (nI (i + 2 + 1))) := tkC_91 (by decide) g2
        have f3 : fd false (ev_up D1 91 9 (nI (i + 2 + 1))) D := fd_9 (fd_tr f1 (fd_fr a4))
        by_cases k3 : Kq T n (i + 3) = 2
        · have hlt3 := tkC_lt g3 (show i + 3 ≤ t by omega) (by omega)
          have hV3 := Vq_lt k3
          have hp2 : (2 : Nat) ^ Vq T n (i + 1) < 2 ^ 31 := Nat.pow_lt_pow_right (by decide) (by omega)
          rw [if_pos k3]
          by_cases v3 : Vq T n (i + 3) < R ∧ Vq T n (i + 3) ≠ Vq T n (i + 1)
          · obtain ⟨D2, b1, b2, b3, b4, b5⟩ := c_tn0 (kp := kp) (fu := fu) (i := i + 3) (R := R) (b := 2 ^ Vq T n (i + 1)) g3 (upS _ _ _ _) (show i + 3 ≤ t by omega) k3 (hlR hR) hp2 (by
              rintro (z | z)
              · omega
              · rw [Nat.testBit_two_pow] at z
                have := of_decide_eq_true z.2
                omega)
            have hp3 : rwP 100 (fun (a : Nat × Nat) => (nI a.1, nI a.2, nI 0)) i ls D2 := rwP_91 (by decide) (fun q j h => by rw [b5 _ _ (by omega), upN _ _ _ _ h, a5 _ _ (by omega), upN _ _ _ _ h]) hp
            obtain ⟨D3, c1, c2, c3, c4⟩ := rwP_add (kp := kp) (fu := fu) (j := i + 4) (by decide) hp3 hl (e_100_2 kp) l_101 (Vq T n (i + 1), Vq T n (i + 3))
            rw [if_pos v3, b1, bdS, if_neg (show ¬ nI 1 = nI 0 by decide), e_91_0, e_92_1, b2, c1, bdS]
            exact ⟨D3, rfl, by omega, by rw [c4]; exact b3, ⟨c2, by rw [c4, b5 _ _ (by omega), upJ _ _ _ _ (by decide)]; exact e11⟩, fd_tr f3 (fd_tr (fd_fr b4) c3)⟩
          · obtain ⟨D2, b1, b2, b3⟩ := c_tn2 (kp := kp) (fu := fu) (i := i + 3) (R := R) (b := 2 ^ Vq T n (i + 1)) g3 (upS _ _ _ _) (show i + 3 ≤ t by omega) k3 (hlR hR) hp2 (by
              by_cases z : R ≤ Vq T n (i + 3)
              · exact .inl z
              · refine .inr ⟨by omega, ?_⟩
                rw [Nat.testBit_two_pow]
                exact decide_eq_true (by omega))
            rw [if_neg v3, b1, bdS, if_pos rfl]
            exact ⟨D2, rfl, b2, fd_tr f3 (fd_fr b3)⟩
        · obtain ⟨D2, b1, b2, b3⟩ := c_tn1 (kp := kp) (fu := fu) (l1 := nI R - nI 1) (l2 := nI (2 ^ Vq T n (i + 1))) g3 (upS _ _ _ _) (show i + 3 ≤ t by omega) hK3 k3
          rw [if_neg k3, b1, bdS, if_pos rfl]
          exact ⟨D2, rfl, b2, fd_tr f3 (fd_fr b3)⟩
      · obtain ⟨D2, b1, b2, b3, _⟩ := c_take1 (kp := kp) (fu := fu) (k := 275) g2 a3 (show i + 2 ≤ t by omega) hK2 (by decide) k2
        rw [if_neg k2, b1, bdS, if_pos rfl]
        exact ⟨D2, rfl, b2, fd_tr f1 (fd_tr (fd_fr a4) (fd_fr b3))⟩
    · obtain ⟨D1, a1, a2, a3⟩ := c_tn2 (kp := kp) (fu := fu) (R := R) (b := 0) g1 (upS _ _ _ _) (by omega) k1 (hlR hR) (by decide) (.inl (by omega))
      rw [if_neg v1, a1, bdS, if_pos rfl]
      exact ⟨D1, rfl, a2, fd_tr f1 (fd_fr a3)⟩
  · obtain ⟨D1, a1, a2, a3⟩ := c_tn1 (kp := kp) (fu := fu) (l1 := nI R - nI 1) (l2 := nI 0) g1 (upS _ _ _ _) (by omega) hK1 k1
    rw [if_neg k1, a1, bdS, if_pos rfl]
    exact ⟨D1, rfl, a2, fd_tr f1 (fd_fr a3)⟩
/-- a day -/
theorem c_day (h255 : ∀ i, T i ≤ 255) {i : Nat} {ls : List (Nat × Nat × Nat)} {D : ev_D} (hl : ls.length < 16) (hi : i ≤ t) (h0 : Kq T n i ≠ 0) (g : tkC T n t D) (h9 : D 91 9 = nI i) (hp : rwP 102 (fun (a : Nat × Nat × Nat) => (nI a.1, nI a.2.1, nI a.2.2)) i ls D) : oD T n t D (fun j a D' => rwP 102 (fun (a : Nat × Nat × Nat) => (nI a.1, nI a.2.1, nI a.2.2)) j (ls ++ [a]) D') (lnD (Kq T n) (Vq T n) i) (fX4_readDay sh_L (sh_E kp) fu 91 D) := by
  have hlt := tkC_lt g hi h0
  have ht := g.2.2.1
  have hK1 := Kq_b (n := n) h255 (i + 1)
  have hK2 := Kq_b (n := n) h255 (i + 2)
  have hK3 := Kq_b (n := n) h255 (i + 3)
  have g1 : tkC T n t (ev_up D 91 9 (nI (i + 1))) := tkC_91 (by decide) g
  have f1 : fd false (ev_up D 91 9 (nI (i + 1))) D := fd_9 (fd_rf _)
  unfold lnD fX4_readDay
  rw [h9, i_1, addK, i_0, i_23, i_271, i_277, i_281]
  by_cases k1 : Kq T n (i + 1) = 2
  · have hlt1 := tkC_lt g1 (show i + 1 ≤ t by omega) (by omega)
    have hV1 := Vq_lt k1
    rw [if_pos k1]
    by_cases v1 : Vq T n (i + 1) ≤ 23
    · obtain ⟨D1, a1, a2, a3, a4, a5⟩ := c_tn0 (kp := kp) (fu := fu) (R := 24) (b := 0) g1 (upS _ _ _ _) (by omega) k1 (hlN (by decide)) (by decide) (by
        rintro (z | z)
        · omega
        · rw [Nat.zero_testBit] at z; exact absurd z.2 (by decide))
      have g2 := tkC_fr a4 g1
      rw [if_pos v1, a1, bdS, if_neg (show ¬ nI 1 = nI 0 by decide), a2, c_kind (i := i + 2) g2 a3 (by omega), bdS]
      have hrest : ∀ (e M : Nat), M ≤ 99 → Kq T n (i + 2) ≠ 0 → oD T n t D (fun j a D' => rwP 102 (fun (a : Nat × Nat × Nat) => (nI a.1, nI a.2.1, nI a.2.2)) j (ls ++ [a]) D') (if Kq T n (i + 3) = 2 then (if Vq T n (i + 3) ≤ M then .inr (i + 4, (Vq T n (i + 1), e, Vq T n (i + 3))) else .inl (2, i + 3)) else .inl (1, i + 3)) (fX4_readDay_98 sh_L (sh_E kp) fu 91 (nI (Vq T n (i + 1))) (nI e) 91 (nI M) (ev_up D1 91 9 (nI (i + 2 + 1)))) := by
        intro e M hM h0
        have hlt2 := tkC_lt g2 (show i + 2 ≤ t by omega) h0
        have g3 : tkC T n t (ev_up D1 91 9 (nI (i + 2 + 1))) := tkC_91 (by decide) g2
        have f3 : fd false (ev_up D1 91 9 (nI (i + 2 + 1))) D := fd_9 (fd_tr f1 (fd_fr a4))
        unfold fX4_readDay_98
        rw [i_0]
        by_cases k3 : Kq T n (i + 3) = 2
        · have hlt3 := tkC_lt g3 (show i + 3 ≤ t by omega) (by omega)
          have hV3 := Vq_lt k3
          rw [if_pos k3]
          by_cases v3 : Vq T n (i + 3) ≤ M
          · obtain ⟨D2, b1, b2, b3, b4, b5⟩ := c_tn0 (kp := kp) (fu := fu) (i := i + 3) (R := M + 1) (b := 0) g3 (upS _ _ _ _) (show i + 3 ≤ t by omega) k3 (hlN (by omega)) (by decide) (by
              rintro (z | z)
              · omega
              · rw [Nat.zero_testBit] at z; exact absurd z.2 (by decide))
            have hp3 : rwP 102 (fun (a : Nat × Nat × Nat) => (nI a.1, nI a.2.1, nI a.2.2)) i ls D2 := rwP_91 (by decide) (fun q j h => by rw [b5 _ _ (by omega), upN _ _ _ _ h, a5 _ _ (by omega), upN _ _ _ _ h]) hp
            obtain ⟨D3, c1, c2, c3, c4⟩ := rwP_add (kp := kp) (fu := fu) (j := i + 4) (by decide) hp3 hl (e_102_2 kp) l_103 (Vq T n (i + 1), e, Vq T n (i + 3))
            rw [if_pos v3, b1, bdS, if_neg (show ¬ nI 1 = nI 0 by decide), e_91_0, e_92_2, b2, c1, bdS]
            exact ⟨D3, rfl, by omega, by rw [c4]; exact b3, c2, fd_tr f3 (fd_tr (fd_fr b4) c3)⟩
          · obtain ⟨D2, b1, b2, b3⟩ := c_tn2 (kp := kp) (fu := fu) (i := i + 3) (R := M + 1) (b := 0) g3 (upS _ _ _ _) (show i + 3 ≤ t by omega) k3 (hlN (by omega)) (by decide) (.inl (by omega))
            rw [if_neg v3, b1, bdS, if_pos rfl]
            exact ⟨D2, rfl, b2, fd_tr f3 (fd_fr b3)⟩
        · obtain ⟨D2, b1, b2, b3⟩ := c_tn1 (kp := kp) (fu := fu) (i := i + 3) (l1 := nI M) (l2 := nI 0) g3 (upS _ _ _ _) (show i + 3 ≤ t by omega) hK3 k3
          rw [if_neg k3, b1, bdS, if_pos rfl]
          exact ⟨D2, rfl, b2, fd_tr f3 (fd_fr b3)⟩
      by_cases k2 : Kq T n (i + 2) = 271
      · rw [if_pos (.inl k2), if_pos (show nI (Kq T n (i + 2)) = nI 271 from congrArg nI k2)]
        unfold fX4_readDay_58 fX4_readDay_74
        rw [i_271, if_pos (show nI (Kq T n (i + 2)) = nI 271 from congrArg nI k2), if_pos rfl, a3, i_1, addK, i_5, i_9, if_pos k2, if_pos k2]
        exact hrest 5 9 (by decide) (by omega)
      · rw [if_neg (show ¬ nI (Kq T n (i + 2)) = nI 271 from fun z => k2 ((nI_eq (by omega) (by omega)).mp z))]
        by_cases k3 : 277 ≤ Kq T n (i + 2) ∧ Kq T n (i + 2) ≤ 281
        · rw [if_pos (.inr k3), e_within _ _ _ _ (show 277 ≤ Kq T n (i + 2) from k3.1) k3.2 (by decide), bdS, if_neg (show ¬ nI 1 = nI 0 by decide)]
          unfold fX4_readDay_58 fX4_readDay_74
          rw [i_271, if_neg (show ¬ nI (Kq T n (i + 2)) = nI 271 from fun z => k2 ((nI_eq (by omega) (by omega)).mp z)), i_277, pk_sub (show 277 ≤ Kq T n (i + 2) from k3.1), i_5, if_neg (show ¬ nI (Kq T n (i + 2) - 277) = nI 5 from fun z => by rw [nI_eq (by omega) (by omega)] at z; have : Kq T n (i + 2) ≤ 281 := k3.2; omega), a3, i_1, addK, i_99, if_neg k2, if_neg k2]
          exact hrest (Kq T n (i + 2) - 277) 99 (by decide) (by omega)
        · obtain ⟨D2, b1, b2, b3, _⟩ := c_ref (kp := kp) (fu := fu) (i := i + 2) g2 a3 (by omega) 1
          rw [if_neg (fun z => z.elim k2 k3), e_within0 _ _ _ _ (show nI (Kq T n (i + 2)) < nI 277 ∨ nI 281 < nI (Kq T n (i + 2)) by
            by_cases q : 277 ≤ Kq T n (i + 2)
            · exact .inr (nI_lt (show 281 < Kq T n (i + 2) by omega) (by omega))
            · exact .inl (nI_lt (show Kq T n (i + 2) < 277 by omega) (by omega))), bdS, if_pos rfl, b1, bdS]
          exact ⟨D2, rfl, b2, fd_tr f1 (fd_tr (fd_fr a4) (fd_fr b3))⟩
    · obtain ⟨D1, a1, a2, a3⟩ := c_tn2 (kp := kp) (fu := fu) (R := 24) (b := 0) g1 (upS _ _ _ _) (by omega) k1 (hlN (by decide)) (by decide) (.inl (by omega))
      rw [if_neg v1, a1, bdS, if_pos rfl]
      exact ⟨D1, rfl, a2, fd_tr f1 (fd_fr a3)⟩
  · obtain ⟨D1, a1, a2, a3⟩ := c_tn1 (kp := kp) (fu := fu) (l1 := nI 23) (l2 := nI 0) g1 (upS _ _ _ _) (by omega) hK1 k1
    rw [if_neg k1, a1, bdS, if_pos rfl]
    exact ⟨D1, rfl, a2, fd_tr f1 (fd_fr a3)⟩
end CLn
