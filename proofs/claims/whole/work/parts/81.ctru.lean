/-! ===== text: the class reads conditions ===== -/
def oa (s : Nat) (A : Option lP) : List lw_C := match A with
  | none => []
  | some x => if s = 0 then x.1 else x.2
section CTru
variable {kp fu n t : Nat} {T : Nat → Nat} {D0 : ev_D} {G : List lw_C}
theorem oC_tr {α : Type} {P : α → ev_D → Prop} {D1 D0 : ev_D} {r : tR α} {x : ev_Op} (hf : fr false D1 D0) (h : oC T n t D1 P r x) : oC T n t D0 P r x := by
  cases r with
  | inl y =>
    obtain ⟨D', a1, a2, a3⟩ := h
    exact ⟨D', a1, a2, fr_tr hf a3⟩
  | inr y =>
    obtain ⟨D', a1, a2, a3, a4, a5⟩ := h
    exact ⟨D', a1, a2, a3, a4, fr_tr hf a5⟩
theorem c_cmp (hfu : 30000 ≤ fu) (h255 : ∀ i, T i ≤ 255) (g : tkC T n t D0) {i : Nat} (h9 : D0 91 9 = nI i) (hi : i ≤ t) (hc : cd D0 G) (hG : G.length + 1 ≤ i) : oC T n t D0 (fun l D' => cd D' (G ++ l)) (cm (Kq T n) (Vq T n) i) (fX4_readComparison sh_L (sh_E kp) fu 91 D0) := by
  have ht := g.2.2.1
  have hp := c_sum (kp := kp) (G := G) hfu h255 g h9 hi hc hG
  unfold cm fX4_readComparison
  cases e1 : sm (Kq T n) (Vq T n) i with
  | inl x =>
    rw [e1] at hp
    obtain ⟨D', b1, b2, b3⟩ := hp
    show oC _ _ _ _ _ (.inl x) _
    rw [b1, bdS, i_0, if_pos rfl]
    exact ⟨D', rfl, b2, b3⟩
  | inr x =>
    obtain ⟨j, l⟩ := x
    have hb := sm_b e1
    rw [e1] at hp
    obtain ⟨D2, b1, b2, b3, b4, b5⟩ := hp
    have hk := Kq_b (n := n) h255 j
    have g2 := tkC_fr b5 g
    show oC _ _ _ _ _ (if 60 ≤ Kq T n j ∧ Kq T n j ≤ 62 then _ else _) _
    rw [b1, bdS, i_0, if_neg (show ¬ nI 1 = nI 0 by decide), c_kind g2 b3 b2, bdS, i_60, i_62]
    refine oC_tr b5 ?_
    by_cases hc2 : 60 ≤ Kq T n j ∧ Kq T n j ≤ 62
    · have hlt := tkC_lt g2 b2 (by omega)
      have g3 : tkC T n t (ev_up D2 91 9 (nI (j + 1))) := tkC_91 (by decide) g2
      have hp2 := c_sum (kp := kp) (G := G ++ l) hfu h255 g3 (upS _ _ _ _) (show j + 1 ≤ t by omega) (cd_91 b4) (by rw [List.length_append]; omega)
      rw [if_pos hc2, e_within _ _ _ _ hc2.1 hc2.2 (by decide), bdS, if_neg (show ¬ nI 1 = nI 0 by decide), b3, i_1, addK]
      refine oC_tr (fr_up (v := nI (j + 1)) (fr_rf _) x9) ?_
      cases e2 : sm (Kq T n) (Vq T n) (j + 1) with
      | inl x =>
        rw [e2] at hp2
        obtain ⟨D', c1, c2, c3⟩ := hp2
        show oC _ _ _ _ _ (.inl x) _
        rw [c1, bdS, if_pos rfl]
        exact ⟨D', rfl, c2, c3⟩
      | inr x =>
        obtain ⟨j2, l2⟩ := x
        have hb2 := sm_b e2
        rw [e2] at hp2
        obtain ⟨D3, c1, c2, c3, c4, c5⟩ := hp2
        obtain ⟨D4, d1, d2, d3, d4⟩ := c_add (kp := kp) (fu := fu) (2, 5 + (Kq T n j - 60)) c4 (by rw [List.length_append, List.length_append]; omega)
        rw [c1, bdS, if_neg (show ¬ nI 1 = nI 0 by decide), e_91_0, e_92_0, i_10105, addK, pk_sub (by omega), show nI (10105 + Kq T n j - 60) = lw_cC (2, 5 + (Kq T n j - 60)) by
          show _ = nI (10100 + (5 + (Kq T n j - 60)))
          exact congrArg nI (by omega), d1, bdS]
        refine ⟨D4, rfl, c2, by rw [d4]; exact c3, ?_, fr_tr c5 d3⟩
        have : G ++ (l ++ l2 ++ [(2, 5 + (Kq T n j - 60))]) = G ++ l ++ l2 ++ [(2, 5 + (Kq T n j - 60))] := by simp
        show cd D4 (G ++ (l ++ l2 ++ [(2, 5 + (Kq T n j - 60))]))
        rw [this]; exact d2
    · rw [if_neg hc2, e_within0 _ _ _ _ (by
        by_cases q : 60 ≤ Kq T n j
        · exact .inr (nI_lt (by omega) (by omega))
        · exact .inl (nI_lt (by omega) (by omega))), bdS, if_pos rfl]
      obtain ⟨D', a1, a2, a3, _⟩ := c_ref (kp := kp) (fu := fu) g2 b3 b2 1
      rw [i_1, a1, bdS]
      exact ⟨D', rfl, a2, a3⟩
theorem c_nots (h255 : ∀ i, T i ≤ 255) (g : tkC T n t D0) {o : Nat} : ∀ (d o' i f : Nat) (D : ev_D), o ≤ o' → o' ≤ 8 → 8 < o' + d → 8 < o' + f → i ≤ t → D 91 9 = nI i → (∀ q k, ¬ (q = 91 ∧ k = 9) → D q k = D0 q k) → (match nt (Kq T n) d o' i with
    | .inl (fl, i') => ∃ D', fX4_takeNots_4 sh_L (sh_E kp) fu f 91 (nI (o' - o)) (nI o') D = some (mi1, D') ∧ eF T n fl i' D' ∧ fr true D' D0
    | .inr (j, o2) => ∃ D', fX4_takeNots_4 sh_L (sh_E kp) fu f 91 (nI (o' - o)) (nI o') D = some (nI (o2 - o), D') ∧ j ≤ t ∧ D' 91 9 = nI j ∧ ∀ q k, ¬ (q = 91 ∧ k = 9) → D' q k = D0 q k) := by
  intro d
  induction d with
  | zero => intro o' i f D h1 h2 h3; omega
  | succ d ih =>
    intro o' i f D h1 h2 h3 h4 hi h9 hD
    obtain ⟨f, rfl⟩ : ∃ f', f = f' + 1 := ⟨f - 1, by omega⟩
    have hk := Kq_b (n := n) h255 i
    have gD : tkC T n t D := tkC_of (fun q j z => hD q j (by omega)) g
    have hfr : fr false D D0 := fun q j z => hD q j (fun y => z (.inl ⟨y.1, .inl y.2⟩))
    rw [fX4_takeNots_4, i_8, if_neg (nI_nlt h2 (by omega)), c_kind gD h9 hi, bdS, i_262, nt]
    by_cases k1 : Kq T n i = 262
    · rw [if_pos k1, if_pos (congrArg nI k1)]
      by_cases e8 : o' = 8
      · rw [if_pos e8, if_pos (congrArg nI e8)]
        obtain ⟨D', a1, a2, a3, _⟩ := c_ref (kp := kp) (fu := fu) gD h9 hi 3
        rw [i_3, a1, bdS]
        exact ⟨D', rfl, a2, fr_tr hfr a3⟩
      · have hlt := tkC_lt gD hi (by omega)
        rw [if_neg e8, if_neg (fun z => e8 ((nI_eq (by omega) (by omega)).mp z)), h9, i_1, addK, addK, addK, show o' - o + 1 = o' + 1 - o by omega]
        exact ih (o' + 1) (i + 1) f (ev_up D 91 9 (nI (i + 1))) (by omega) (by omega) (by omega) (by omega) (by omega) (upS _ _ _ _) (fun q k z => by rw [upA, if_neg z]; exact hD q k z)
    · rw [if_neg k1, if_neg (fun z => k1 ((nI_eq (by omega) (by omega)).mp z))]
      exact ⟨D, rfl, hi, h9, hD⟩
/-- a reader of conditions and what it should read -/
def rtC (T : Nat → Nat) (n t k : Nat) (crt : Nat → Int32 → ev_D → ev_Op) (srt : Nat → Nat → tR lP) : Prop := ∀ (o i : Nat) (G : List lw_C) (D : ev_D), 10 ≤ k + o → o ≤ 8 → i ≤ t → tkC T n t D → D 91 9 = nI i → cd D G → G.length + 1 ≤ i → oC T n t D (fun p D' => cd D' (G ++ p.1)) (srt o i) (crt 91 (nI o) D)
theorem c_inn (hfu : 30000 ≤ fu) (h255 : ∀ i, T i ≤ 255) {k : Nat} {crt : Nat → Int32 → ev_D → ev_Op} {srt : Nat → Nat → tR lP} (hr : rtC T n t k crt srt) {o i : Nat} {D : ev_D} (hk9 : 9 ≤ k + o) (ho : o ≤ 8) (hi : i ≤ t) (g : tkC T n t D) (h9 : D 91 9 = nI i) (hc : cd D G) (hG : G.length + 1 ≤ i) (R : Int32 → ev_D → ev_Op) (P : lP → ev_D → Prop) (z : tR lP → tR lP) (hz1 : ∀ x, z (.inl x) = .inl x) (hR0 : ∀ D', R (nI 0) D' = some (nI 0, D')) (hR : ∀ j p D', j ≤ t → D' 91 9 = nI j → cd D' (G ++ p.1) → fr false D' D → inn (Kq T n) (Vq T n) srt o i = .inr (j, p) → oC T n t D' P (z (.inr (j, p))) (R (nI 1) D')) : oC T n t D P (z (inn (Kq T n) (Vq T n) srt o i)) (ev_bd (if nI (Kq T n i) = nI 40 then fX4_readInner sh_L (sh_E kp) fu crt 91 (nI o) D else fX4_readComparison sh_L (sh_E kp) fu 91 D) R) := by
  have ht := g.2.2.1
  have hk := Kq_b (n := n) h255 i
  have hmain : oC T n t D (fun p D' => cd D' (G ++ p.1)) (inn (Kq T n) (Vq T n) srt o i) (if nI (Kq T n i) = nI 40 then fX4_readInner sh_L (sh_E kp) fu crt 91 (nI o) D else fX4_readComparison sh_L (sh_E kp) fu 91 D) := by
    unfold inn
    by_cases k40 : Kq T n i = 40
    · have hlt := tkC_lt g hi (by omega)
      rw [if_pos k40, if_pos (congrArg nI k40)]
      unfold fX4_readInner
      by_cases o8 : o < 8
      · have g1 : tkC T n t (ev_up D 91 9 (nI (i + 1))) := tkC_91 (by decide) g
        have hp := hr (o + 1) (i + 1) G (ev_up D 91 9 (nI (i + 1))) (by omega) (by omega) (by omega) g1 (upS _ _ _ _) (cd_91 hc) (by omega)
        rw [if_pos o8, i_8, if_pos (nI_lt o8 (by decide)), h9, i_1, addK, addK]
        refine oC_tr (fr_up (v := nI (i + 1)) (fr_rf _) x9) ?_
        cases e1 : srt (o + 1) (i + 1) with
        | inl x =>
          rw [e1] at hp
          obtain ⟨D', b1, b2, b3⟩ := hp
          show oC _ _ _ _ _ (.inl x) _
          rw [b1, bdS, i_0, if_pos rfl]
          exact ⟨D', rfl, b2, b3⟩
        | inr x =>
          obtain ⟨j, p⟩ := x
          rw [e1] at hp
          obtain ⟨D2, b1, b2, b3, b4, b5⟩ := hp
          have hkj := Kq_b (n := n) h255 j
          have g2 := tkC_fr b5 g1
          show oC _ _ _ _ _ (if Kq T n j = 41 then _ else _) _
          rw [b1, bdS, i_0, if_neg (show ¬ nI 1 = nI 0 by decide), i_41]
          refine oC_tr b5 ?_
          by_cases k41 : Kq T n j = 41
          · have hlt2 := tkC_lt g2 b2 (by omega)
            rw [if_pos k41, c_take g2 b3 b2 hkj k41, bdS, if_neg (show ¬ nI 1 = nI 0 by decide)]
            exact ⟨_, rfl, by omega, upS _ _ _ _, cd_91 b4, fr_up (fr_rf _) x9⟩
          · obtain ⟨D', c1, c2, c3, _⟩ := c_take1 (kp := kp) (fu := fu) (k := 41) g2 b3 b2 hkj (by decide) k41
            rw [if_neg k41, c1, bdS, if_pos rfl]
            exact ⟨D', rfl, c2, c3⟩
      · rw [if_neg o8, i_8, if_neg (nI_nlt (by omega) (by omega))]
        obtain ⟨D', a1, a2, a3, _⟩ := c_ref (kp := kp) (fu := fu) g h9 hi 3
        rw [i_3, a1, bdS]
        exact ⟨D', rfl, a2, a3⟩
    · rw [if_neg k40, if_neg (fun z => k40 ((nI_eq (by omega) (by omega)).mp z))]
      have hp := c_cmp (kp := kp) hfu h255 g h9 hi hc hG
      cases e1 : cm (Kq T n) (Vq T n) i with
      | inl x => rw [e1] at hp; exact hp
      | inr x =>
        obtain ⟨j, l⟩ := x
        rw [e1] at hp
        exact hp
  cases e1 : inn (Kq T n) (Vq T n) srt o i with
  | inl x =>
    rw [e1] at hmain
    obtain ⟨D', b1, b2, b3⟩ := hmain
    rw [hz1, b1, bdS, hR0]
    exact ⟨D', rfl, b2, b3⟩
  | inr x =>
    obtain ⟨j, p⟩ := x
    rw [e1] at hmain
    obtain ⟨D', b1, b2, b3, b4, b5⟩ := hmain
    rw [b1, bdS]
    exact oC_tr b5 (hR j p D' b2 b3 b4 b5 e1)
theorem and1I (k : Nat) : (nI k &&& nI 1 = nI 1) ↔ k % 2 = 1 := by
  rw [nI_and, and1, nI_eq (by omega) (by omega)]
theorem c_trL (hfu : 30000 ≤ fu) (h255 : ∀ i, T i ≤ 255) {k : Nat} {crt : Nat → Int32 → ev_D → ev_Op} {srt : Nat → Nat → tR lP} (hr : rtC T n t k crt srt) (hrb : ∀ o i j p, o ≤ 8 → srt o i = .inr (j, p) → i ≤ j ∧ p.1.length + i ≤ j ∧ p.2.length + i ≤ j) {o : Nat} (hk9 : 9 ≤ k + o) (ho : o ≤ 8) (ht : t ≤ 400) : ∀ (d i : Nat) (A B : Option lP) (nf l4 : Nat) (D : ev_D), i ≤ t → t < i + d → t < i + nf → l4 < i → tkC T n t D → D 91 9 = nI i → cd D (G ++ oa 0 A ++ oa 0 B) → G.length + ol A 0 + ol B 0 + 1 ≤ i → oC T n t D (fun p D' => cd D' (G ++ p.1)) (trL (Kq T n) (Vq T n) srt o d i A B) (fX4_readTruth_7 sh_L (sh_E kp) fu crt nf 91 (nI o) (nI B.isSome.toNat) (nI A.isSome.toNat) (nI l4) D) := by
  intro d
  induction d with
  | zero => intro i A B nf l4 D hi h1; omega
  | succ d ih =>
    intro i A B nf l4 D hi h1 h2 h3 gD h9 hc hG
    obtain ⟨nf, rfl⟩ : ∃ f', nf = f' + 1 := ⟨nf - 1, by omega⟩
    have hoA : (oa 0 A).length ≤ ol A 0 ∧ (A = none → oa 0 A = []) := by
      cases A with
      | none => exact ⟨Nat.le_refl _, fun _ => rfl⟩
      | some x => exact ⟨Nat.le_succ _, fun z => (by cases z)⟩
    have hoB : (oa 0 B).length ≤ ol B 0 ∧ (B = none → oa 0 B = []) := by
      cases B with
      | none => exact ⟨Nat.le_refl _, fun _ => rfl⟩
      | some x => exact ⟨Nat.le_succ _, fun z => (by cases z)⟩
    have hlen : (G ++ oa 0 A ++ oa 0 B).length = G.length + (oa 0 A).length + (oa 0 B).length := by rw [List.length_append, List.length_append]
    rw [fX4_readTruth_7, i_400, if_neg (nI_ge (by omega) (by omega)), trL]
    unfold fX4_takeNots tpr
    have hn := c_nots (kp := kp) (fu := fu) (D0 := D) h255 gD (o := o) 10 o i fu D (Nat.le_refl _) ho (by omega) (by omega) hi h9 (fun _ _ _ => rfl)
    rw [Nat.sub_self] at hn
    rw [i_0, mm1]
    cases e1 : nt (Kq T n) 10 o i with
    | inl x =>
      rw [e1] at hn
      obtain ⟨D', a1, a2, a3⟩ := hn
      show oC _ _ _ _ _ (.inl x) _
      rw [a1, bdS, if_pos rfl]
      exact ⟨D', rfl, a2, a3⟩
    | inr x =>
      obtain ⟨j, o2⟩ := x
      have hb := nt_b 10 o i j o2 ho e1
      rw [e1] at hn
      obtain ⟨D2, a1, a2, a3, a4⟩ := hn
      have g2 : tkC T n t D2 := tkC_of (fun q j z => a4 q j (by omega)) gD
      have f2 : fr false D2 D := fun q j z => a4 q j (fun y => z (.inl ⟨y.1, .inl y.2⟩))
      have c2 : cd D2 (G ++ oa 0 A ++ oa 0 B) := cd_of (a4 _ _ (by omega)) (fun q => a4 _ _ (by omega)) hc
      rw [a1, bdS, if_neg (m1N (by omega)), c_kind g2 a3 a2, bdS, addK, show o + (o2 - o) = o2 by omega, i_40]
      refine oC_tr f2 ?_
      rw [show (if nI (Kq T n j) = nI 40 then ev_bd (fX4_readInner sh_L (sh_E kp) fu crt 91 (nI o2) D2) (fun v21 D21 => if v21 = nI 0 then some (nI 0, D21) else fX4_readTruth_62 sh_L (sh_E kp) fu crt (fX4_readTruth_7 sh_L (sh_E kp) fu crt nf) 91 (nI o) (nI B.isSome.toNat) (nI A.isSome.toNat) (nI l4) (nI (o2 - o)) D21) else ev_bd (fX4_readComparison sh_L (sh_E kp) fu 91 D2) (fun v19 D19 => if v19 = nI 0 then some (nI 0, D19) else fX4_readTruth_62 sh_L (sh_E kp) fu crt (fX4_readTruth_7 sh_L (sh_E kp) fu crt nf) 91 (nI o) (nI B.isSome.toNat) (nI A.isSome.toNat) (nI l4) (nI (o2 - o)) D19)) = ev_bd (if nI (Kq T n j) = nI 40 then fX4_readInner sh_L (sh_E kp) fu crt 91 (nI o2) D2 else fX4_readComparison sh_L (sh_E kp) fu 91 D2) (fun v21 D21 => if v21 = nI 0 then some (nI 0, D21) else fX4_readTruth_62 sh_L (sh_E kp) fu crt (fX4_readTruth_7 sh_L (sh_E kp) fu crt nf) 91 (nI o) (nI B.isSome.toNat) (nI A.isSome.toNat) (nI l4) (nI (o2 - o)) D21) by split <;> rfl]
      refine c_inn (kp := kp) (G := G ++ oa 0 A ++ oa 0 B) hfu h255 hr (by omega) hb.2.2.2.1 a2 g2 a3 c2 (by omega) (fun v21 D21 => if v21 = nI 0 then some (nI 0, D21) else fX4_readTruth_62 sh_L (sh_E kp) fu crt (fX4_readTruth_7 sh_L (sh_E kp) fu crt nf) 91 (nI o) (nI B.isSome.toNat) (nI A.isSome.toNat) (nI l4) (nI (o2 - o)) D21) (fun p D' => cd D' (G ++ p.1)) (fun r => match (match r with
        | .inl x => (.inl x : tR lP)
        | .inr (j3, p) => .inr (j3, nP (o2 - o) p)) with
        | .inl x => .inl x
        | .inr (j, p) => if Kq T n j = 261 then trL (Kq T n) (Vq T n) srt o d (j + 1) A (some (jn B 8 p)) else if Kq T n j = 260 then trL (Kq T n) (Vq T n) srt o d (j + 1) (some (jn A 9 (jn B 8 p))) none else .inr (j, jn A 9 (jn B 8 p))) (fun x => rfl) (fun D' => if_pos rfl) ?_
      intro j3 p D3 d1 d2 d3 d4 e3
      have hpb : j ≤ j3 ∧ p.1.length + j ≤ j3 ∧ p.2.length + j ≤ j3 := by
        have hr' : rtB (fun o i => if o ≤ 8 then srt o i else .inl (9, i)) := by
          intro o i j p h
          by_cases q : o ≤ 8
          · have h : srt o i = .inr (j, p) := by rw [← h]; exact (if_pos q).symm
            exact hrb o i j p q h
          · have h : (.inl (9, i) : tR lP) = .inr (j, p) := by rw [← h]; exact (if_neg q).symm
            cases h
        have he : inn (Kq T n) (Vq T n) (fun o i => if o ≤ 8 then srt o i else .inl (9, i)) o2 j = .inr (j3, p) := by
          rw [← e3]
          unfold inn
          by_cases h1 : Kq T n j = 40
          · rw [if_pos h1, if_pos h1]
            by_cases h2 : o2 < 8
            · rw [if_pos h2, if_pos h2, show (fun o i => if o ≤ 8 then srt o i else .inl (9, i)) (o2 + 1) (j + 1) = srt (o2 + 1) (j + 1) from if_pos (by omega)]
            · rw [if_neg h2, if_neg h2]
          · rw [if_neg h1, if_neg h1]
        exact inn_b hr' he
      have hkj := Kq_b (n := n) h255 j3
      have g3 := tkC_fr d4 g2
      show oC _ _ _ _ _ (if Kq T n j3 = 261 then _ else _) (if nI 1 = nI 0 then _ else _)
      rw [if_neg (show ¬ nI 1 = nI 0 by decide)]
      -- nots
      obtain ⟨D4, n1, n2, n3, n4⟩ : ∃ D4, fX4_readTruth_62 sh_L (sh_E kp) fu crt (fX4_readTruth_7 sh_L (sh_E kp) fu crt nf) 91 (nI o) (nI B.isSome.toNat) (nI A.isSome.toNat) (nI l4) (nI (o2 - o)) D3 = fX4_readTruth_83 sh_L (sh_E kp) fu crt (fX4_readTruth_7 sh_L (sh_E kp) fu crt nf) 91 (nI o) (nI B.isSome.toNat) (nI A.isSome.toNat) (nI l4) D4 ∧ cd D4 (G ++ oa 0 A ++ oa 0 B ++ (nP (o2 - o) p).1) ∧ fr false D4 D3 ∧ D4 91 9 = nI j3 := by
        unfold fX4_readTruth_62 nP
        rw [i_1]
        by_cases hodd : (o2 - o) % 2 = 1
        · obtain ⟨D4, m1, m2, m3, m4⟩ := c_add (kp := kp) (fu := fu) (2, 0) d3 (by rw [List.length_append, hlen]; omega)
          rw [if_pos ((and1I _).mpr hodd), e_91_0, e_92_0, i_10100, show nI 10100 = lw_cC (2, 0) from rfl, m1, bdS]
          refine ⟨D4, rfl, ?_, m3, by rw [m4]; exact d2⟩
          rw [if_pos hodd, ← List.append_assoc]
          exact m2
        · rw [if_neg (fun z => hodd ((and1I _).mp z))]
          refine ⟨D3, rfl, ?_, fr_rf _, d2⟩
          rw [if_neg hodd, List.append_nil]
          exact d3
      have hnP := nP_b (o2 - o) p
      have hq1 := jn_b B 8 (nP (o2 - o) p)
      have hq2 := jn_b A 9 (jn B 8 (nP (o2 - o) p))
      -- and
      obtain ⟨D5, p1, p2, p3, p4⟩ : ∃ D5, fX4_readTruth_83 sh_L (sh_E kp) fu crt (fX4_readTruth_7 sh_L (sh_E kp) fu crt nf) 91 (nI o) (nI B.isSome.toNat) (nI A.isSome.toNat) (nI l4) D4 = fX4_readTruth_100 sh_L (sh_E kp) fu crt (fX4_readTruth_7 sh_L (sh_E kp) fu crt nf) 91 (nI o) (nI A.isSome.toNat) (nI l4) D5 ∧ cd D5 (G ++ oa 0 A ++ (jn B 8 (nP (o2 - o) p)).1) ∧ fr false D5 D4 ∧ D5 91 9 = nI j3 := by
        unfold fX4_readTruth_83
        rw [i_0]
        cases B with
        | none =>
          rw [if_pos (show nI (Option.isSome (none : Option lP)).toNat = nI 0 from rfl)]
          refine ⟨D4, rfl, ?_, fr_rf _, n4⟩
          have : oa 0 (none : Option lP) = [] := rfl
          rw [this, List.append_nil] at n2
          exact n2
        | some b =>
          obtain ⟨D5, m1, m2, m3, m4⟩ := c_add (kp := kp) (fu := fu) (2, 8) n2 (by rw [List.length_append, hlen]; have : ol (some b) 0 = b.1.length + 1 := rfl; have : (oa 0 (some b)).length = b.1.length := rfl; omega)
          rw [if_neg (show ¬ nI (Option.isSome (some b)).toNat = nI 0 from fun z => absurd z (show ¬ nI 1 = nI 0 by decide)), e_91_0, e_92_0, i_10108, show nI 10108 = lw_cC (2, 8) from rfl, m1, bdS]
          refine ⟨D5, rfl, ?_, m3, by rw [m4]; exact n4⟩
          show cd D5 (G ++ oa 0 A ++ (b.1 ++ (nP (o2 - o) p).1 ++ [(2, 8)]))
          have : G ++ oa 0 A ++ (b.1 ++ (nP (o2 - o) p).1 ++ [(2, 8)]) = G ++ oa 0 A ++ oa 0 (some b) ++ (nP (o2 - o) p).1 ++ [(2, 8)] := by simp [oa]
          rw [this]; exact m2
      have f5 : fr false D5 D3 := fr_tr n3 p3
      have g5 := tkC_fr f5 g3
      rw [n1, p1]
      unfold fX4_readTruth_100 fX4_readTruth_115
      rw [c_kind g5 p4 d1, bdS, i_261]
      refine oC_tr f5 ?_
      by_cases k261 : Kq T n j3 = 261
      · have hlt := tkC_lt g5 d1 (by omega)
        rw [if_pos k261, if_pos (congrArg nI k261)]
        unfold fX4_readTruth_159
        rw [i_1, i_0, if_neg (show ¬ nI 1 = nI 0 by decide), p4, addK, addK]
        refine oC_tr (fr_up (v := nI (j3 + 1)) (fr_rf _) x9) ?_
        exact ih (j3 + 1) A (some (jn B 8 (nP (o2 - o) p))) nf (l4 + 1) (ev_up D5 91 9 (nI (j3 + 1))) (by omega) (by omega) (by omega) (by omega) (tkC_91 (by decide) g5) (upS _ _ _ _) (cd_91 p2) (by
          have : ol (some (jn B 8 (nP (o2 - o) p))) 0 = (jn B 8 (nP (o2 - o) p)).1.length + 1 := rfl
          omega)
      · rw [if_neg k261, if_neg (fun z => k261 ((nI_eq (by omega) (by omega)).mp z)), i_0, if_pos rfl]
        obtain ⟨D6, r1, r2, r3, r4⟩ : ∃ D6, (if nI A.isSome.toNat = nI 0 then fX4_readTruth_137 sh_L (sh_E kp) fu crt (fX4_readTruth_7 sh_L (sh_E kp) fu crt nf) 91 (nI o) (nI 0) (nI l4) D5 else ev_bd (fX1_add sh_L (sh_E kp) fu (sh_E kp (sh_E kp 91 0) 0) (10109 : Int32) D5) (fun _ D6 => fX4_readTruth_137 sh_L (sh_E kp) fu crt (fX4_readTruth_7 sh_L (sh_E kp) fu crt nf) 91 (nI o) (nI 0) (nI l4) D6)) = fX4_readTruth_137 sh_L (sh_E kp) fu crt (fX4_readTruth_7 sh_L (sh_E kp) fu crt nf) 91 (nI o) (nI 0) (nI l4) D6 ∧ cd D6 (G ++ (jn A 9 (jn B 8 (nP (o2 - o) p))).1) ∧ fr false D6 D5 ∧ D6 91 9 = nI j3 := by
          cases A with
          | none =>
            rw [if_pos (show nI (Option.isSome (none : Option lP)).toNat = nI 0 from rfl)]
            refine ⟨D5, rfl, ?_, fr_rf _, p4⟩
            have : oa 0 (none : Option lP) = [] := rfl
            rw [this, List.append_nil] at p2
            exact p2
          | some a =>
            obtain ⟨D6, m1, m2, m3, m4⟩ := c_add (kp := kp) (fu := fu) (2, 9) p2 (by rw [List.length_append, List.length_append]; have : ol (some a) 0 = a.1.length + 1 := rfl; have : (oa 0 (some a)).length = a.1.length := rfl; omega)
            rw [if_neg (show ¬ nI (Option.isSome (some a)).toNat = nI 0 from fun z => absurd z (show ¬ nI 1 = nI 0 by decide)), e_91_0, e_92_0, i_10109, show nI 10109 = lw_cC (2, 9) from rfl, m1, bdS]
            refine ⟨D6, rfl, ?_, m3, by rw [m4]; exact p4⟩
            show cd D6 (G ++ (a.1 ++ (jn B 8 (nP (o2 - o) p)).1 ++ [(2, 9)]))
            have : G ++ (a.1 ++ (jn B 8 (nP (o2 - o) p)).1 ++ [(2, 9)]) = G ++ oa 0 (some a) ++ (jn B 8 (nP (o2 - o) p)).1 ++ [(2, 9)] := by simp [oa]
            rw [this]; exact m2
        rw [r1]
        have g6 := tkC_fr r3 g5
        refine oC_tr r3 ?_
        unfold fX4_readTruth_137 fX4_readTruth_152
        rw [c_kind g6 r4 d1, bdS, i_260]
        by_cases k260 : Kq T n j3 = 260
        · have hlt := tkC_lt g6 d1 (by omega)
          rw [if_pos k260, if_pos (congrArg nI k260)]
          unfold fX4_readTruth_159
          rw [i_1, i_0, if_neg (show ¬ nI 1 = nI 0 by decide), r4, addK, addK]
          refine oC_tr (fr_up (v := nI (j3 + 1)) (fr_rf _) x9) ?_
          exact ih (j3 + 1) (some (jn A 9 (jn B 8 (nP (o2 - o) p)))) none nf (l4 + 1) (ev_up D6 91 9 (nI (j3 + 1))) (by omega) (by omega) (by omega) (by omega) (tkC_91 (by decide) g6) (upS _ _ _ _) (cd_91 (by
            have : oa 0 (none : Option lP) = [] := rfl
            rw [this, List.append_nil]
            exact r2)) (by
            have : ol (some (jn A 9 (jn B 8 (nP (o2 - o) p)))) 0 = (jn A 9 (jn B 8 (nP (o2 - o) p))).1.length + 1 := rfl
            have : ol none 0 = 0 := rfl
            omega)
        · rw [if_neg k260, if_neg (fun z => k260 ((nI_eq (by omega) (by omega)).mp z)), i_0, if_pos rfl]
          exact ⟨D6, rfl, d1, r4, r2, fr_rf _⟩
theorem c_tr (hfu : 30000 ≤ fu) (h255 : ∀ i, T i ≤ 255) (ht : t ≤ 400) : ∀ k, rtC T n t k (fX4_readTruth sh_L (sh_E kp) fu k) (tr (Kq T n) (Vq T n) k)
  | 0, o, i, G, D, h1, h2, _, _, _, _, _ => by omega
  | k + 1, o, i, G, D, h1, h2, hi, g, h9, hc, hG => by
    rw [fX4_readTruth, tr]
    unfold fX4_readTruthB
    refine c_trL (kp := kp) (G := G) hfu h255 (c_tr hfu h255 ht k) (fun o i j p h8 h => tr_b k o i j p h8 h) (by omega) h2 ht 402 i none none fu 0 D hi (by omega) (by omega) (by omega) g h9 ?_ ?_
    · show cd D (G ++ [] ++ [])
      rw [List.append_nil, List.append_nil]
      exact hc
    · show G.length + 0 + 0 + 1 ≤ i
      omega
end CTru
