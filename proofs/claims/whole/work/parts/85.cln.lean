/-! ===== text: the class reads changes and laws ===== -/
def nadb (s : Nat) : Bool := (List.range 8).all (fun p => !(s.testBit p && s.testBit (p + 1)))
theorem brd_c : ((List.range 128).all fun s => !(nadb s) || ((List.range 7).all fun v => (brd s).testBit v || (nadb (s ||| 2 ^ v) && decide (s ||| 2 ^ v < 128) && Nat.beq (ones (s ||| 2 ^ v)) (ones s + 1)))) = true := by decide +kernel
theorem brd_d : ((List.range 128).all fun s => !(nadb s) || Nat.ble (ones s) 4) = true := by decide +kernel
/-- places none beside another -/
def nad (s : Nat) : Prop := s < 128 ∧ nadb s = true
theorem brd_ok {s : Nat} (h : nad s) {v : Nat} (hv : v < 7) (hb : (brd s).testBit v = false) : nad (s ||| 2 ^ v) ∧ ones (s ||| 2 ^ v) = ones s + 1 := by
  have h1 := List.all_eq_true.mp brd_c s (List.mem_range.mpr h.1)
  rw [h.2, Bool.not_true, Bool.false_or] at h1
  have h2 := List.all_eq_true.mp h1 v (List.mem_range.mpr hv)
  rw [hb, Bool.false_or, Bool.and_eq_true, Bool.and_eq_true] at h2
  exact ⟨⟨of_decide_eq_true h2.1.2, h2.1.1⟩, Nat.eq_of_beq_eq_true h2.2⟩
theorem brd_4 {s : Nat} (h : nad s) : ones s ≤ 4 := by
  have h1 := List.all_eq_true.mp brd_d s (List.mem_range.mpr h.1)
  rw [h.2, Bool.not_true, Bool.false_or] at h1
  exact Nat.le_of_ble_eq_true h1
theorem brdI {s : Nat} (hs : s < 128) : nI s ||| nI s <<< (nI 1 &&& nI 31) ||| nI s >>> (nI 1 &&& nI 31) = nI (brd s) := by
  rw [pk_shlN _ 1 (sh31 1 (by decide)) (by omega), nI_shr (by omega) (by decide), nI_or, nI_or, show s * 2 ^ 1 = 2 * s by omega, show s / 2 ^ 1 = s / 2 by omega]
  rfl
theorem brd_lt {s : Nat} (hs : s < 128) : brd s < 2 ^ 31 := by
  unfold brd
  exact Nat.lt_of_lt_of_le (or_lt (m := 8) (or_lt (m := 8) (by omega) (by omega)) (by omega)) (by decide)
section CLn2
variable {kp fu n t : Nat} {T : Nat → Nat}
theorem c_chL (h255 : ∀ i, T i ≤ 255) {ls : List Nat} (hl : ls.length < 16) : ∀ (d i s m f : Nat) (D : ev_D), i ≤ t → t < i + d → m ≤ 4 → m ≤ ones s → (m = 0 ∨ Kq T n i = 2) → 5 < m + f → nad s → tkC T n t D → D 91 9 = nI i → rwP 104 (fun (a : Nat) => (nI a, nI 0, nI 0)) i ls D → oD T n t D (fun j a D' => rwP 104 (fun (a : Nat) => (nI a, nI 0, nI 0)) j (ls ++ [a]) D') (chL (Kq T n) (Vq T n) d i s) (fX4_readChange_14 sh_L (sh_E kp) fu f 91 (nI s) (nI m) D) := by
  intro d
  induction d with
  | zero => intro i s m f D hi h1; omega
  | succ d ih =>
    intro i s m f D hi h1 h4 hm hk hf hs g h9 hp
    obtain ⟨f, rfl⟩ : ∃ f', f = f' + 1 := ⟨f - 1, by omega⟩
    have hK := Kq_b (n := n) h255 i
    have hK1 := Kq_b (n := n) h255 (i + 1)
    have hun : fX4_readChange_14 sh_L (sh_E kp) fu (f + 1) 91 (nI s) (nI m) D = fX4_readChange_35 sh_L (sh_E kp) fu (fX4_readChange_14 sh_L (sh_E kp) fu f) 91 (nI s) (nI m) D := by
      rw [fX4_readChange_14, i_7, if_neg (nI_nlt (by omega) (by omega)), i_0]
      by_cases m0 : m = 0
      · rw [if_pos (nI_le (by omega) (by omega))]
      · rw [if_neg (nI_ge (by omega) (by omega)), c_kind g h9 hi, bdS, i_2, if_pos (congrArg nI (hk.resolve_left m0))]
    rw [hun]
    unfold fX4_readChange_35
    rw [i_1, i_31, brdI hs.1, i_6, chL]
    by_cases k2 : Kq T n i = 2
    · have hlt := tkC_lt g hi (by omega)
      have hV := Vq_lt k2
      rw [if_pos k2]
      by_cases v6 : Vq T n i ≤ 6 ∧ (brd s).testBit (Vq T n i) = false
      · obtain ⟨D1, a1, a2, a3, a4, a5⟩ := c_tn0 (kp := kp) (fu := fu) (R := 7) (b := brd s) g h9 hi k2 (hlN (by decide)) (brd_lt hs.1) (by
          rintro (z | z)
          · omega
          · rw [v6.2] at z; exact absurd z.2 (by decide))
        have g1 := tkC_fr a4 g
        obtain ⟨q1, q3⟩ := brd_ok hs (show Vq T n i < 7 by omega) v6.2
        have q4 := brd_4 q1
        have hp1 : rwP 104 (fun (a : Nat) => (nI a, nI 0, nI 0)) (i + 1) ls D1 := rwP_91 (by decide) (fun q j h => by rw [a5 _ _ (by omega)]) hp
        rw [if_pos v6, a1, bdS, i_0, if_neg (show ¬ nI 1 = nI 0 by decide), a2, nI_shl (by omega), nI_or, addK]
        refine oD_tr (fd_fr a4) ?_
        by_cases k3 : Kq T n (i + 1) = 2
        · rw [if_pos k3]
          exact ih (i + 1) (s ||| 2 ^ Vq T n i) (m + 1) f D1 (by omega) (by omega) (by omega) (by omega) (.inr k3) (by omega) q1 g1 a3 hp1
        · rw [if_neg k3]
          obtain ⟨f, rfl⟩ : ∃ f', f = f' + 1 := ⟨f - 1, by omega⟩
          obtain ⟨D2, b1, b2, b3, b4⟩ := rwP_add (kp := kp) (fu := fu) (j := i + 1) (by decide) hp1 hl (e_104_2 kp) l_105 (s ||| 2 ^ Vq T n i)
          rw [fX4_readChange_14, i_7, if_neg (nI_nlt (by omega) (by omega)), i_0, if_neg (nI_ge (by omega) (by omega)), c_kind g1 a3 (by omega), bdS, i_2, if_neg (fun z => k3 ((nI_eq (by omega) (by omega)).mp z))]
          unfold fX4_readChange_70
          rw [e_91_0, e_92_3, i_0, b1, bdS]
          exact ⟨D2, rfl, by omega, by rw [b4]; exact a3, b2, b3⟩
      · obtain ⟨D1, a1, a2, a3⟩ := c_tn2 (kp := kp) (fu := fu) (R := 7) (b := brd s) g h9 hi k2 (hlN (by decide)) (brd_lt hs.1) (by
          by_cases z : 7 ≤ Vq T n i
          · exact .inl z
          · refine .inr ⟨by omega, ?_⟩
            cases e : (brd s).testBit (Vq T n i) with
            | true => rfl
            | false => exact absurd ⟨by omega, e⟩ v6)
        rw [if_neg v6, a1, bdS, i_0, if_pos rfl]
        exact ⟨D1, rfl, a2, fd_fr a3⟩
    · obtain ⟨D1, a1, a2, a3⟩ := c_tn1 (kp := kp) (fu := fu) (l1 := nI 6) (l2 := nI (brd s)) g h9 hi hK k2
      rw [if_neg k2, a1, bdS, i_0, if_pos rfl]
      exact ⟨D1, rfl, a2, fd_fr a3⟩
theorem c_change (hfu : 30000 ≤ fu) (h255 : ∀ i, T i ≤ 255) {i : Nat} {ls : List Nat} {D : ev_D} (hl : ls.length < 16) (hi : i ≤ t) (h0 : Kq T n i ≠ 0) (g : tkC T n t D) (h9 : D 91 9 = nI i) (hp : rwP 104 (fun (a : Nat) => (nI a, nI 0, nI 0)) i ls D) : oD T n t D (fun j a D' => rwP 104 (fun (a : Nat) => (nI a, nI 0, nI 0)) j (ls ++ [a]) D') (lnC (Kq T n) (Vq T n) i) (fX4_readChange sh_L (sh_E kp) fu 91 D) := by
  have hlt := tkC_lt g hi h0
  have ht := g.2.2.1
  unfold lnC fX4_readChange
  rw [h9, i_1, addK, i_0]
  refine oD_tr (D1 := ev_up D 91 9 (nI (i + 1))) (fd_9 (fd_rf _)) ?_
  exact c_chL h255 hl 402 (i + 1) 0 0 fu _ (by omega) (by omega) (by decide) (by decide) (.inl rfl) (by omega) ⟨by decide, by decide⟩ (tkC_91 (by decide) g) (upS _ _ _ _) (rwP_91 (by decide) (fun q j h => by rw [upN _ _ _ _ h]) hp)
/-! a line of the law -/
abbrev lLn : Type := Nat × List lw_C × Option lP
def fl1 (s : Nat) (x : lLn) : List lw_C := x.2.1 ++ oa s x.2.2
def fC (s : Nat) : List lLn → List lw_C
  | [] => []
  | x :: l => fl1 s x ++ fC s l
theorem fC_app (s : Nat) : ∀ (l r : List lLn), fC s (l ++ r) = fC s l ++ fC s r
  | [], r => rfl
  | x :: l, r => by
    show fl1 s x ++ fC s (l ++ r) = fl1 s x ++ fC s l ++ fC s r
    rw [fC_app s l r, List.append_assoc]
/-- where the line q begins -/
def lB (s : Nat) (ls : List lLn) (q : Nat) : Nat := (fC s (ls.take q)).length
theorem lB_app {s : Nat} {ls r : List lLn} {q : Nat} (h : q ≤ ls.length) : lB s (ls ++ r) q = lB s ls q := by
  unfold lB
  rw [List.take_append_of_le_length h]
theorem lB_all (s : Nat) (ls : List lLn) : lB s ls ls.length = (fC s ls).length := by
  unfold lB
  rw [List.take_length]
theorem lB_s {s : Nat} {ls : List lLn} {q : Nat} (h : q < ls.length) : lB s ls (q + 1) = lB s ls q + (fl1 s ls[q]).length := by
  unfold lB
  rw [List.take_succ_eq_append_getElem h, fC_app, List.length_append]
  show _ + (fl1 s ls[q] ++ []).length = _
  rw [List.append_nil]
def lwP (i : Nat) (ls : List lLn) (D : ev_D) : Prop := D 93 0 = nI ls.length ∧ cd D (fC 0 ls) ∧ (∀ q (h : q < ls.length), D 94 q = nI ls[q].1 ∧ D 95 q = nI (lB 0 ls q) ∧ D 96 q = nI (lB 0 ls q + ls[q].2.1.length) ∧ D 97 q = nI (lB 0 ls (q + 1))) ∧ (fC 0 ls).length ≤ i
theorem c_begin {q u : Nat} {w : Int32} {D : ev_D} (hq : q < 16) (h0 : D 93 0 = nI q) (h1 : D 93 1 = nI u) : fX1_begin sh_L (sh_E kp) fu 93 w D = some (nI 0, ev_up (ev_up (ev_up (ev_up D 94 q w) 95 q (nI u)) 96 q (nI u)) 97 q (nI u)) := by
  unfold fX1_begin fX1_begin_45
  simp only [e_93_2, e_93_3, e_93_4, e_93_5, l_94, l_95, l_96, l_97, upN _ _ _ _ (show (93 : Nat) ≠ 94 by decide), upN _ _ _ _ (show (93 : Nat) ≠ 95 by decide), upN _ _ _ _ (show (93 : Nat) ≠ 96 by decide), h0, h1]
  rw [i_16, if_neg (nI_ge hq (by omega)), gdI hq (by omega), gdI hq (by omega), gdI hq (by omega), gdI hq (by omega), nI_clamp (by omega), i_0]
theorem c_line (hfu : 30000 ≤ fu) (h255 : ∀ i, T i ≤ 255) {i : Nat} {ls : List lLn} {D : ev_D} (hl : ls.length < 16) (hi : i ≤ t) (hk : 256 ≤ Kq T n i ∧ Kq T n i ≤ 258) (g : tkC T n t D) (h9 : D 91 9 = nI i) (hp : lwP i ls D) : oD T n t D (fun j a D' => lwP j (ls ++ [a]) D') (lnL (Kq T n) (Vq T n) i) (fX4_readLaw sh_L (sh_E kp) fu 91 D) := by
  have hlt := tkC_lt g hi (by omega)
  have ht := g.2.2.1
  obtain ⟨p1, p2, p3, p4⟩ := hp
  -- the line's word
  have hb := c_begin (kp := kp) (fu := fu) (w := nI (Kq T n i - 256)) hl p1 p2.1
  generalize hD1 : ev_up (ev_up (ev_up (ev_up D 94 ls.length (nI (Kq T n i - 256))) 95 ls.length (nI (fC 0 ls).length)) 96 ls.length (nI (fC 0 ls).length)) 97 ls.length (nI (fC 0 ls).length) = D1 at hb
  have q1 : ∀ q j, ¬ (94 ≤ q ∧ q ≤ 97) → D1 q j = D q j := by
    intro q j h
    rw [← hD1, upN _ _ _ _ (by omega), upN _ _ _ _ (by omega), upN _ _ _ _ (by omega), upN _ _ _ _ (by omega)]
  have q2 : ∀ q j, j ≠ ls.length → D1 q j = D q j := by
    intro q j h
    rw [← hD1, upJ _ _ _ _ h, upJ _ _ _ _ h, upJ _ _ _ _ h, upJ _ _ _ _ h]
  have q3 : D1 94 ls.length = nI (Kq T n i - 256) ∧ D1 95 ls.length = nI (fC 0 ls).length := by
    rw [← hD1]
    refine ⟨by simp (disch := omega) only [upA, neF, eqTn, true_and, false_and, and_false, and_true, and_self, reduceIte], by simp (disch := omega) only [upA, neF, eqTn, true_and, false_and, and_false, and_true, and_self, reduceIte]⟩
  have fd1 : fd false D1 D := fun q j a b => q1 q j (by omega)
  have g1 : tkC T n t (ev_up D1 91 9 (nI (i + 1))) := tkC_91 (by decide) (tkC_fd fd1 g)
  have c1 : cd (ev_up D1 91 9 (nI (i + 1))) (fC 0 ls) := cd_91 (cd_of (q1 _ _ (by omega)) (fun j => q1 _ _ (by omega)) p2)
  have hS := c_sum (kp := kp) hfu h255 g1 (upS _ _ _ _) (show i + 1 ≤ t by omega) c1 (by omega)
  have f1 : fd false (ev_up D1 91 9 (nI (i + 1))) D := fd_9 fd1
  unfold lnL fX4_readLaw
  rw [c_kind g h9 hi, bdS, i_256, pk_sub (by omega), e_91_0, e_92_0, hb, bdS, q1 91 9 (by omega), h9, i_1, addK]
  cases e1 : sm (Kq T n) (Vq T n) (i + 1) with
  | inl x =>
    rw [e1] at hS
    obtain ⟨D', a1, a2, a3⟩ := hS
    show oD _ _ _ _ _ (.inl x) _
    rw [a1, bdS, i_0, if_pos rfl]
    exact ⟨D', rfl, a2, fd_tr f1 (fd_fr a3)⟩
  | inr x =>
    obtain ⟨j, l⟩ := x
    have hb1 := sm_b e1
    rw [e1] at hS
    obtain ⟨D2, a1, a2, a3, a4, a5⟩ := hS
    have hKj := Kq_b (n := n) h255 j
    have r0 : D2 93 0 = nI ls.length := by rw [a5 _ _ (nx (by omega) (by omega) (by omega)), upN _ _ _ _ (by decide), q1 _ _ (by omega)]; exact p1
    have hm : fX1_markWhen sh_L (sh_E kp) fu 93 D2 = some (nI 0, ev_up D2 96 ls.length (nI (fC 0 ls ++ l).length)) := by
      unfold fX1_markWhen
      rw [r0, i_16, if_neg (nI_ge hl (by omega)), e_93_4, l_96, gdI hl (by omega), nI_clamp (by omega), a4.1, i_0]
    generalize hD3 : ev_up D2 96 ls.length (nI (fC 0 ls ++ l).length) = D3 at hm
    have s1 : ∀ q j, q ≠ 96 → D3 q j = D2 q j := fun q j h => by rw [← hD3, upN _ _ _ _ h]
    have s2 : ∀ q j, j ≠ ls.length → D3 q j = D2 q j := fun q j h => by rw [← hD3, upJ _ _ _ _ h]
    have s3 : D3 96 ls.length = nI (fC 0 ls ++ l).length := by rw [← hD3, upS]
    have fd3 : fd false D3 D := fd_tr f1 (fd_tr (fd_fr a5) (by rw [← hD3]; exact fd_up (fd_rf _) (by omega)))
    have g3 := tkC_fd fd3 g
    have h93 : D3 91 9 = nI j := by rw [s1 _ _ (by decide)]; exact a3
    have cd3 : cd D3 (fC 0 ls ++ l) := cd_of (s1 _ _ (by decide)) (fun j => s1 _ _ (by decide)) a4
    -- the end of the line
    have hend : ∀ (D4 : ev_D) (j2 : Nat) (c : Option lP), fr false D4 D3 → D4 91 9 = nI j2 → j2 ≤ t → cd D4 (fC 0 ls ++ l ++ oa 0 c) → (fC 0 ls ++ l ++ oa 0 c).length ≤ j2 → oD T n t D (fun j a D' => lwP j (ls ++ [a]) D') (.inr (j2, (Kq T n i - 256, l, c))) (fX4_readLaw_77 sh_L (sh_E kp) fu 91 D4) := by
      intro D4 j2 c hf4 h94 hj2 hc4 hlen
      have r04 : D4 93 0 = nI ls.length := by rw [hf4 _ _ (nx (by omega) (by omega) (by omega)), s1 _ _ (by decide)]; exact r0
      have hfc : fC 0 (ls ++ [(Kq T n i - 256, l, c)]) = fC 0 ls ++ l ++ oa 0 c := by
        rw [fC_app]
        show fC 0 ls ++ (l ++ oa 0 c ++ []) = _
        rw [List.append_nil, List.append_assoc]
      unfold fX4_readLaw_77 fX1_finish
      rw [e_91_0, e_92_0, r04, i_16, if_neg (nI_ge hl (by omega)), e_93_5, l_97, gdI hl (by omega), nI_clamp (by omega), bdS, hc4.1, upN _ _ _ _ (show (93 : Nat) ≠ 97 by decide), r04, i_1, addK]
      refine ⟨_, rfl, hj2, by rw [upN _ _ _ _ (by decide), upN _ _ _ _ (by decide)]; exact h94, ⟨?_, ?_, fun q hq => ?_, by rw [hfc]; exact hlen⟩, ?_⟩
      · rw [upS, List.length_append]; rfl
      · rw [hfc]
        exact cd_of (by rw [upJ _ _ _ _ (by decide), upN _ _ _ _ (by decide)]) (fun j => by rw [upN _ _ _ _ (by decide), upN _ _ _ _ (by decide)]) hc4
      · rw [List.length_append] at hq
        simp only [List.length_cons, List.length_nil] at hq
        have hfr : ∀ z, (94 ≤ z ∧ z ≤ 97) → D4 z q = D3 z q := fun z hz => hf4 _ _ (nx (by omega) (by omega) (by omega))
        rw [upN _ _ _ _ (show (94 : Nat) ≠ 93 by decide), upN _ _ _ _ (show (95 : Nat) ≠ 93 by decide), upN _ _ _ _ (show (96 : Nat) ≠ 93 by decide), upN _ _ _ _ (show (97 : Nat) ≠ 93 by decide), upN _ _ _ _ (show (94 : Nat) ≠ 97 by decide), upN _ _ _ _ (show (95 : Nat) ≠ 97 by decide), upN _ _ _ _ (show (96 : Nat) ≠ 97 by decide)]
        by_cases e : q < ls.length
        · rw [List.getElem_append_left e, lB_app (by omega), lB_app (by omega), upJ _ _ _ _ (by omega), hfr 94 (by omega), hfr 95 (by omega), hfr 96 (by omega), hfr 97 (by omega), s2 _ _ (by omega), s2 _ _ (by omega), s2 _ _ (by omega), s2 _ _ (by omega), a5 _ _ (nx (by omega) (by omega) (by omega)), a5 _ _ (nx (by omega) (by omega) (by omega)), a5 _ _ (nx (by omega) (by omega) (by omega)), a5 _ _ (nx (by omega) (by omega) (by omega)), upN _ _ _ _ (show (94 : Nat) ≠ 91 by decide), upN _ _ _ _ (show (95 : Nat) ≠ 91 by decide), upN _ _ _ _ (show (96 : Nat) ≠ 91 by decide), upN _ _ _ _ (show (97 : Nat) ≠ 91 by decide), q2 _ _ (by omega), q2 _ _ (by omega), q2 _ _ (by omega), q2 _ _ (by omega)]
          exact p3 q e
        · have eq : q = ls.length := by omega
          subst eq
          have hg : (ls ++ [(Kq T n i - 256, l, c)])[ls.length]'(by rw [List.length_append]; simp) = (Kq T n i - 256, l, c) := by
            rw [List.getElem_append_right (Nat.le_refl _)]
            simp
          rw [hg, lB_app (Nat.le_refl _), lB_all, upS, hfr 94 (by omega), hfr 95 (by omega), hfr 96 (by omega), s3, s1 _ _ (by decide), s1 _ _ (by decide), a5 _ _ (nx (by omega) (by omega) (by omega)), a5 _ _ (nx (by omega) (by omega) (by omega)), upN _ _ _ _ (show (94 : Nat) ≠ 91 by decide), upN _ _ _ _ (show (95 : Nat) ≠ 91 by decide), q3.1, q3.2]
          refine ⟨rfl, rfl, by rw [List.length_append], ?_⟩
          have : ls.length + 1 = (ls ++ [(Kq T n i - 256, l, c)]).length := by rw [List.length_append]; rfl
          rw [this, lB_all, hfc]
      · exact fd_up (fd_up (fd_tr fd3 (fd_fr hf4)) (by omega)) (by omega)
    show oD _ _ _ _ _ (if Kq T n j = 259 then _ else _) _
    rw [a1, bdS, i_0, if_neg (show ¬ nI 1 = nI 0 by decide), hm, bdS, c_kind g3 h93 a2, bdS, i_259]
    by_cases k259 : Kq T n j = 259
    · have hlt2 := tkC_lt g3 a2 (by omega)
      have g4 : tkC T n t (ev_up D3 91 9 (nI (j + 1))) := tkC_91 (by decide) g3
      have hT := c_tr (kp := kp) hfu h255 ht 10 0 (j + 1) (fC 0 ls ++ l) (ev_up D3 91 9 (nI (j + 1))) (by decide) (by decide) (by omega) g4 (upS _ _ _ _) (cd_91 cd3) (by rw [List.length_append]; omega)
      rw [if_pos k259, if_pos (congrArg nI k259), h93, addK]
      cases e2 : tr (Kq T n) (Vq T n) 10 0 (j + 1) with
      | inl x =>
        rw [e2] at hT
        obtain ⟨D', b1, b2, b3⟩ := hT
        show oD _ _ _ _ _ (.inl x) _
        rw [b1, bdS, if_pos rfl]
        exact ⟨D', rfl, b2, fd_tr fd3 (fd_tr (fd_9 (fd_rf _)) (fd_fr b3))⟩
      | inr x =>
        obtain ⟨j2, p⟩ := x
        have hb2 := tr_b 10 0 (j + 1) j2 p (by decide) e2
        rw [e2] at hT
        obtain ⟨D4, b1, b2, b3, b4, b5⟩ := hT
        rw [b1, bdS, if_neg (show ¬ nI 1 = nI 0 by decide)]
        exact hend D4 j2 (some p) (fr_tr (fr_up (fr_rf _) x9) b5) b3 b2 b4 (by
          show (fC 0 ls ++ l ++ p.1).length ≤ j2
          rw [List.length_append, List.length_append]
          omega)
    · rw [if_neg k259, if_neg (fun z => k259 ((nI_eq (by omega) (by omega)).mp z))]
      exact hend D3 j none (fr_rf _) h93 a2 (by
        show cd D3 (fC 0 ls ++ l ++ [])
        rw [List.append_nil]; exact cd3) (by
        show (fC 0 ls ++ l ++ []).length ≤ j
        rw [List.append_nil, List.length_append]
        omega)
end CLn2
