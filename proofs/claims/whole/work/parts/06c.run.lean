/-! ===== a small interpreter over the picture, for constructors and what makes cells ===== -/
abbrev ev_Jn : Type := Nat × ev_I × Nat × Nat × Nat
abbrev ev_Rs : Type := Int32 × ev_S × ev_D
abbrev ev_Cf : Type := Nat → List Value → ev_S → ev_D → Option ev_Rs
def ev_cmp (k : Nat) (x y : Int32) : Bool := match k with
  | 0 => decide (x = y)
  | 1 => !(decide (x = y))
  | 2 => decide (x < y)
  | 3 => decide (y ≤ x)
  | 4 => decide (y < x)
  | _ => decide (x ≤ y)
def ev_psh (c : Nat) (v : Int32) (st : List Value) : List Value := match c with
  | 0 => st
  | _ => .int v :: st
def ev_js (cf : ev_Cf) (pc : Nat) (j : ev_Jn) (lv : ev_V) (st : List Value) (S : ev_S) (D : ev_D) : Option (ev_Rs ⊕ (Nat × ev_V × List Value × ev_S × ev_D)) :=
  match j.1 with
  | 0 => (match ev_sx S j.2.1 lv st D with
    | some (true, lv1, st1, D1) => some (.inr (pc + j.2.1.2.1, lv1, st1, S, D1))
    | _ => none)
  | 1 => some (.inr (j.2.2.1, lv, st, S, D))
  | 2 => (match st with
    | .int x :: r => some (.inr (bif ev_cmp j.2.2.2.1 x 0 then j.2.2.1 else pc + 3, lv, r, S, D))
    | _ => none)
  | 3 => (match st with
    | .int y :: .int x :: r => some (.inr (bif ev_cmp j.2.2.2.1 x y then j.2.2.1 else pc + 3, lv, r, S, D))
    | _ => none)
  | 4 => (match st with
    | [] => some (.inl (0, S, D))
    | _ => none)
  | 5 => (match st with
    | [.int v] => (bif (v == 0 || v == 1) then some (.inl (v, S, D)) else none)
    | _ => none)
  | 6 => some (.inr (pc + 3, lv, .ref (sZ S + 1) :: st, ev_nO j.2.2.1 j.2.2.2.1 S, ev_0 D (sZ S + 1)))
  | 7 => (match st with
    | .int n :: r => (bif !(decide (n < 0)) && decide (n.toNatClampNeg ≤ 100000) then some (.inr (pc + 2, lv, .ref (sZ S + 1) :: r, ev_nA n.toNatClampNeg S, ev_0 D (sZ S + 1))) else none)
    | _ => none)
  | 8 => (match st with
    | .int n :: r => (bif !(decide (n < 0)) && decide (n.toNatClampNeg ≤ 100000) then some (.inr (pc + 3, lv, .ref (sZ S + 1) :: r, ev_nT n.toNatClampNeg S, ev_0 D (sZ S + 1))) else none)
    | _ => none)
  | 9 => (match st with
    | w :: .ref q :: r => (bif (sK S q == j.2.2.1 + 3) && ev_fitv (ev_ft j.2.2.1 j.2.2.2.1) w then some (.inr (pc + 3, lv, r, ev_pS S q j.2.2.2.1 w, ev_pD D q j.2.2.2.1 w)) else none)
    | _ => none)
  | 10 => (bif ev_cat (st.drop j.2.2.2.1) && decide (j.2.2.2.1 ≤ st.length) then (match cf j.2.2.1 (st.take j.2.2.2.1).reverse S D with
    | some (v, S2, D2) => some (.inr (pc + 3, lv, ev_psh j.2.2.2.2 v (st.drop j.2.2.2.1), ev_add S2 S (sC S2) (sA S2), D2))
    | none => none) else none)
  | 11 => (match st.drop j.2.2.2.1 with
    | .ref q :: r => (bif ev_cat r && (decide (j.2.2.2.1 ≤ st.length) && !(decide (q = 0))) then (match cf j.2.2.1 (.ref q :: (st.take j.2.2.2.1).reverse) S D with
      | some (_, S2, D2) => some (.inr (pc + 3, lv, r, ev_add S2 S (sC S2) (sA S2), D2))
      | none => none) else none)
    | _ => none)
  | 12 => (match st with
    | .ref q :: r => (bif ev_cat r && !(decide (q = 0)) then some (.inr (pc + 3, lv, r, S, D)) else none)
    | _ => none)
  | 13 => (match st with
    | .ref v :: .int i :: .ref q :: r => (bif (sK S q == 2) && ((sK S v == 12) && ev_in i (sL S q)) then some (.inr (pc + 1, lv, r, ev_sE S q i.toNatClampNeg v, D)) else none)
    | _ => none)
  | 14 => (match st.drop j.2.2.2.1 with
    | .ref q :: r => (bif ev_cat r && (decide (j.2.2.2.1 ≤ st.length) && (sK S q == j.2.1.2.2.1 + 3)) then (match cf j.2.2.1 (.ref q :: (st.take j.2.2.2.1).reverse) S D with
      | some (v, S2, D2) => some (.inr (pc + 3, lv, ev_psh j.2.2.2.2 v r, ev_add S2 S (sC S2) (sA S2), D2))
      | none => none) else none)
    | _ => none)
  | 15 => (match st with
    | .ref q :: r => some (.inr (bif decide (q = 0) then pc + 3 else j.2.2.1, lv, r, S, D))
    | _ => none)
  | 16 => some (.inr (pc + 1, lv, .ref 0 :: st, S, D))
  | _ => none
def ev_fd : List (Nat × ev_Jn) → Nat → Option ev_Jn
  | [], _ => none
  | e :: r, pc => bif Nat.beq e.1 pc then some e.2 else ev_fd r pc
def ev_run (tb : List (Nat × ev_Jn)) (cf : ev_Cf) : Nat → Nat → ev_V → List Value → ev_S → ev_D → Option ev_Rs
  | 0, _, _, _, _, _ => none
  | n + 1, pc, lv, st, S, D => match ev_fd tb pc with
    | none => none
    | some j => match ev_js cf pc j lv st S D with
      | none => none
      | some (.inl r) => some r
      | some (.inr (pc1, lv1, st1, S1, D1)) => ev_run tb cf n pc1 lv1 st1 S1 D1
/-- what a row of the table must say of the code -/
def ev_jok (cf : ev_Cf) (own : String) (cc : ByteArray) (nL d : Nat) (ini : Bool) (pc : Nat) (j : ev_Jn) : Prop := match j.1 with
  | 0 => ∃ lk, ev_lkok own lk ∧ decode cc pc = .ok (j.2.1.1, j.2.1.2.1) ∧ ev_ok1 lk nL j.2.1 = true
  | 1 => ∃ off : Int, decode cc pc = .ok (.goto off, 3) ∧ (pc : Int) + off = (j.2.2.1 : Int)
  | 2 => ∃ off : Int, (match j.2.2.2.1 with
    | 0 => decode cc pc = .ok (.ifCond .eq off, 3)
    | 1 => decode cc pc = .ok (.ifCond .ne off, 3)
    | 2 => decode cc pc = .ok (.ifCond .lt off, 3)
    | 3 => decode cc pc = .ok (.ifCond .ge off, 3)
    | 4 => decode cc pc = .ok (.ifCond .gt off, 3)
    | _ => decode cc pc = .ok (.ifCond .le off, 3)) ∧ (pc : Int) + off = (j.2.2.1 : Int)
  | 3 => ∃ off : Int, (match j.2.2.2.1 with
    | 0 => decode cc pc = .ok (.if_icmp .eq off, 3)
    | 1 => decode cc pc = .ok (.if_icmp .ne off, 3)
    | 2 => decode cc pc = .ok (.if_icmp .lt off, 3)
    | 3 => decode cc pc = .ok (.if_icmp .ge off, 3)
    | 4 => decode cc pc = .ok (.if_icmp .gt off, 3)
    | _ => decode cc pc = .ok (.if_icmp .le off, 3)) ∧ (pc : Int) + off = (j.2.2.1 : Int)
  | 4 => decode cc pc = .ok (.return_, 1)
  | 5 => decode cc pc = .ok (.ireturn, 1)
  | 6 => ∃ (idx : Nat) (rc : vw_C), vwCl[j.2.2.1]? = some rc ∧ rc.2.2 = j.2.2.2.1 ∧ Cond.classLink own idx rc.1 ∈ lw_tbl ∧ Cond.instantiable rc.1 rc.2.2 ∈ lw_tbl ∧ Cond.initialized rc.1 ∈ lw_tbl ∧ decode cc pc = .ok (.new idx, 3)
  | 7 => Cond.arrayClass .int ∈ lw_tbl ∧ decode cc pc = .ok (.newarray .int, 2)
  | 8 => ∃ idx : Nat, Cond.classLink own idx "DeafBells$Tower" ∈ lw_tbl ∧ Cond.arrayOver (.object "DeafBells$Tower") ∈ lw_tbl ∧ decode cc pc = .ok (.anewarray idx, 3)
  | 9 => ∃ (idx : Nat) (rc : vw_C), vwCl[j.2.2.1]? = some rc ∧ j.2.2.2.1 < rc.2.2 ∧ Cond.fieldLink own idx (rc.2.1 j.2.2.2.1).1 (rc.2.1 j.2.2.2.1).2.1 (rc.2.1 j.2.2.2.1).2.2.1 ∈ lw_tbl ∧ ((rc.2.1 j.2.2.2.1).2.2.2 = false ∨ ((rc.2.1 j.2.2.2.1).2.2.2 = true ∧ (rc.2.1 j.2.2.2.1).1 = own ∧ ini = true)) ∧ decode cc pc = .ok (.putfield idx, 3)
  | 10 => ∃ (idx : Nat) (y : MethodName) (bs : ByteArray) (mL : Nat) (ret : Option FieldType) (d2 : Nat), ev_YS y bs mL ret j.2.2.2.1 ∧ (Cond.methodLink own idx y ∈ lw_tbl ∨ ∃ host, Cond.methodLinkNest own idx y host ∈ lw_tbl) ∧ d2 + 1 ≤ d ∧ (∀ v st, ev_ps ret v st = ev_psh j.2.2.2.2 v st) ∧ decode cc pc = .ok (.invokestatic idx, 3) ∧ ∀ vs S D v S2 D2, cf j.2.2.1 vs S D = some (v, S2, D2) → ev_M d2 (sC S2) (sA S2) y bs mL ret vs S D S2 (v, D2)
  | 11 => ∃ (idx : Nat) (y : MethodName) (bs : ByteArray) (mL : Nat) (d2 : Nat), ev_YI y bs mL j.2.2.2.1 ∧ (Cond.methodLink own idx y ∈ lw_tbl ∨ ∃ host, Cond.methodLinkNest own idx y host ∈ lw_tbl) ∧ d2 + 1 ≤ d ∧ decode cc pc = .ok (.invokespecial idx, 3) ∧ ∀ vs S D v S2 D2, cf j.2.2.1 vs S D = some (v, S2, D2) → ev_M d2 (sC S2) (sA S2) y bs mL none vs S D S2 (v, D2)
  | 12 => ∃ idx : Nat, Cond.methodLink own idx Lib.objectInit ∈ lw_tbl ∧ Cond.instanceMethod Lib.objectInit ∈ lw_tbl ∧ Cond.code Lib.objectInit ⟨#[0xb1]⟩ 1 none ∈ lw_tbl ∧ 1 ≤ d ∧ decode cc pc = .ok (.invokespecial idx, 3)
  | 13 => decode cc pc = .ok (.aastore, 1)
  | 14 => ∃ (idx : Nat) (y : MethodName) (bs : ByteArray) (mL : Nat) (ret : Option FieldType) (d2 : Nat), ev_YV y bs mL ret j.2.2.2.1 ∧ Cond.methodLink own idx y ∈ lw_tbl ∧ d2 + 1 ≤ d ∧ (vwCl[j.2.1.2.2.1]?).map (fun x => x.1) = some y.cls ∧ (∀ v st, ev_ps ret v st = ev_psh j.2.2.2.2 v st) ∧ decode cc pc = .ok (.invokevirtual idx, 3) ∧ ∀ vs S D v S2 D2, cf j.2.2.1 vs S D = some (v, S2, D2) → ev_M d2 (sC S2) (sA S2) y bs mL ret vs S D S2 (v, D2)
  | 15 => ∃ off : Int, decode cc pc = .ok (.ifnonnull off, 3) ∧ (pc : Int) + off = (j.2.2.1 : Int)
  | 16 => decode cc pc = .ok (.aconst_null, 1)
  | _ => False
theorem ev_pS_cnt (S : ev_S) (q i : Nat) (w : Value) : sC (ev_pS S q i w) = sC S ∧ sA (ev_pS S q i w) = sA S := by
  cases w <;> exact ⟨rfl, rfl⟩
section Run
variable {own : String} {cc : ByteArray} {nL d N NS : Nat} {ini : Bool} {ret : Option FieldType} {S S1 S' : ev_S} {F : ev_Fr} {D D1 D' : ev_D} {pc pc1 : Nat} {lv lv1 : ev_V} {st st1 : List Value} {cf : ev_Cf} {j : ev_Jn} {v : Int32}
theorem ev_drop_take (b : Nat) (st r : List Value) (q : Nat) (h : st.drop b = .ref q :: r) : ((st.take b).reverse).reverse ++ .ref q :: r = st := by
  rw [List.reverse_reverse, ← h, List.take_append_drop]
theorem ev_js_mono (h : ev_js cf pc j lv st S D = some (.inr (pc1, lv1, st1, S1, D1))) : sC S ≤ sC S1 ∧ sA S ≤ sA S1 := by
  obtain ⟨tag, it, a, b, c⟩ := j
  match tag, h with
  | 0, h =>
    simp only [ev_js] at h
    split at h
    · cases h; exact ⟨Nat.le_refl _, Nat.le_refl _⟩
    · cases h
  | 1, h => cases h; exact ⟨Nat.le_refl _, Nat.le_refl _⟩
  | 2, h =>
    simp only [ev_js] at h
    split at h
    · cases h; exact ⟨Nat.le_refl _, Nat.le_refl _⟩
    · cases h
  | 3, h =>
    simp only [ev_js] at h
    split at h
    · cases h; exact ⟨Nat.le_refl _, Nat.le_refl _⟩
    · cases h
  | 4, h =>
    simp only [ev_js] at h
    split at h <;> cases h
  | 5, h =>
    simp only [ev_js, cond] at h
    split at h
    · split at h <;> cases h
    · cases h
  | 6, h => cases h; exact ⟨Nat.le_add_right _ _, Nat.le_add_right _ _⟩
  | 7, h =>
    simp only [ev_js, cond] at h
    split at h
    · split at h
      · cases h; exact ⟨Nat.le_add_right _ _, Nat.le_add_right _ _⟩
      · cases h
    · cases h
  | 8, h =>
    simp only [ev_js, cond] at h
    split at h
    · split at h
      · cases h; exact ⟨Nat.le_add_right _ _, Nat.le_add_right _ _⟩
      · cases h
    · cases h
  | 9, h =>
    simp only [ev_js, cond] at h
    split at h
    · split at h
      · cases h
        exact ⟨Nat.le_of_eq (ev_pS_cnt _ _ _ _).1.symm, Nat.le_of_eq (ev_pS_cnt _ _ _ _).2.symm⟩
      · cases h
    · cases h
  | 10, h =>
    simp only [ev_js, cond] at h
    split at h
    · split at h
      · cases h; exact ⟨Nat.le_add_right _ _, Nat.le_add_right _ _⟩
      · cases h
    · cases h
  | 11, h =>
    simp only [ev_js, cond] at h
    split at h
    · split at h
      · split at h
        · cases h; exact ⟨Nat.le_add_right _ _, Nat.le_add_right _ _⟩
        · cases h
      · cases h
    · cases h
  | 12, h =>
    simp only [ev_js, cond] at h
    split at h
    · split at h
      · cases h; exact ⟨Nat.le_refl _, Nat.le_refl _⟩
      · cases h
    · cases h
  | 13, h =>
    simp only [ev_js, cond] at h
    split at h
    · split at h
      · cases h; exact ⟨Nat.le_refl _, Nat.le_refl _⟩
      · cases h
    · cases h
  | 14, h =>
    simp only [ev_js, cond] at h
    split at h
    · split at h
      · split at h
        · cases h; exact ⟨Nat.le_add_right _ _, Nat.le_add_right _ _⟩
        · cases h
      · cases h
    · cases h
  | 15, h =>
    simp only [ev_js] at h
    split at h
    · cases h; exact ⟨Nat.le_refl _, Nat.le_refl _⟩
    · cases h
  | 16, h => cases h; exact ⟨Nat.le_refl _, Nat.le_refl _⟩
  | n + 17, h => cases h
theorem ev_cmp_t {p : Prop} {dp : Decidable p} {a b : Nat} (h : p) : (bif decide p then a else b) = a := by simp [h]
theorem ev_cmp_f {p : Prop} {dp : Decidable p} {a b : Nat} (h : ¬ p) : (bif decide p then a else b) = b := by simp [h]
theorem ev_cmp_nt {p : Prop} {dp : Decidable p} {a b : Nat} (h : p) : (bif !(decide p) then a else b) = b := by simp [h]
theorem ev_cmp_nf {p : Prop} {dp : Decidable p} {a b : Nat} (h : ¬ p) : (bif !(decide p) then a else b) = a := by simp [h]
theorem ev_nullc (hX : ev_X own cc nL d N NS ini F) (hdg : decode cc pc = .ok (.aconst_null, 1)) (kk : F S D (pc + 1) lv (.ref 0 :: st)) : F S D pc lv st := by
  obtain ⟨p, l, e, R, s, m, args, below, meth, c, G, Q, ⟨hx, hb, -⟩, rfl⟩ := hX
  exact fun H locs ls hW hS hL => lv_null hx hb hdg (kk H locs ls hW hS hL)
theorem ev_js_ok (hX : ev_X own cc nL d N NS ini F) (hj : ev_jok cf own cc nL d ini pc j) (h : ev_js cf pc j lv st S D = some (.inr (pc1, lv1, st1, S1, D1))) (hN : sC S1 ≤ N ∧ sA S1 ≤ NS) (kk : F S1 D1 pc1 lv1 st1) : F S D pc lv st := by
  obtain ⟨tag, it, a, b, c⟩ := j
  match tag, hj, h with
  | 0, hj, h =>
    obtain ⟨lk, k1, k2, k3⟩ := hj
    simp only [ev_js] at h
    split at h
    · rename_i lv2 st2 D2 hs
      cases h
      refine ev_blk hX k1 [it] (g := true) (lv' := lv1) (st' := st1) (D' := D1) (pc' := pc + it.2.1) (by simp only [ev_chk, k3, Bool.and_true, Bool.true_and, decide_eq_true_eq]; exact k2) (by simp only [ev_bk, hs, Bool.and_true]) rfl (by simp only [ev_lens, Nat.add_zero]) kk
    · cases h
  | 1, hj, h =>
    obtain ⟨off, k1, k2⟩ := hj
    cases h
    exact ev_goto hX _ k1 k2 kk
  | 2, hj, h =>
    obtain ⟨off, k1, k2⟩ := hj
    simp only [ev_js] at h
    split at h
    · rename_i x r
      dsimp only at k1 k2
      match b, k1, h with
      | 0, k1, h =>
        simp only [ev_cmp] at h
        exact ev_if_eq hX _ k1 k2 (fun z => by rw [ev_cmp_t z] at h; cases h; exact kk) (fun z => by rw [ev_cmp_f z] at h; cases h; exact kk)
      | 1, k1, h =>
        simp only [ev_cmp] at h
        exact ev_if_ne hX _ k1 k2 (fun z => by rw [ev_cmp_nf z] at h; cases h; exact kk) (fun z => by rw [ev_cmp_nt z] at h; cases h; exact kk)
      | 2, k1, h =>
        simp only [ev_cmp] at h
        exact ev_if_lt hX _ k1 k2 (fun z => by rw [ev_cmp_t z] at h; cases h; exact kk) (fun z => by rw [ev_cmp_f z] at h; cases h; exact kk)
      | 3, k1, h =>
        simp only [ev_cmp] at h
        exact ev_if_ge hX _ k1 k2 (fun z => by rw [ev_cmp_t z] at h; cases h; exact kk) (fun z => by rw [ev_cmp_f z] at h; cases h; exact kk)
      | 4, k1, h =>
        simp only [ev_cmp] at h
        exact ev_if_gt hX _ k1 k2 (fun z => by rw [ev_cmp_t z] at h; cases h; exact kk) (fun z => by rw [ev_cmp_f z] at h; cases h; exact kk)
      | n + 5, k1, h =>
        simp only [ev_cmp] at h
        exact ev_if_le hX _ k1 k2 (fun z => by rw [ev_cmp_t z] at h; cases h; exact kk) (fun z => by rw [ev_cmp_f z] at h; cases h; exact kk)
    · cases h
  | 3, hj, h =>
    obtain ⟨off, k1, k2⟩ := hj
    simp only [ev_js] at h
    split at h
    · rename_i y x r
      dsimp only at k1 k2
      match b, k1, h with
      | 0, k1, h =>
        simp only [ev_cmp] at h
        exact ev_ic_eq hX _ k1 k2 (fun z => by rw [ev_cmp_t z] at h; cases h; exact kk) (fun z => by rw [ev_cmp_f z] at h; cases h; exact kk)
      | 1, k1, h =>
        simp only [ev_cmp] at h
        exact ev_ic_ne hX _ k1 k2 (fun z => by rw [ev_cmp_nf z] at h; cases h; exact kk) (fun z => by rw [ev_cmp_nt z] at h; cases h; exact kk)
      | 2, k1, h =>
        simp only [ev_cmp] at h
        exact ev_ic_lt hX _ k1 k2 (fun z => by rw [ev_cmp_t z] at h; cases h; exact kk) (fun z => by rw [ev_cmp_f z] at h; cases h; exact kk)
      | 3, k1, h =>
        simp only [ev_cmp] at h
        exact ev_ic_ge hX _ k1 k2 (fun z => by rw [ev_cmp_t z] at h; cases h; exact kk) (fun z => by rw [ev_cmp_f z] at h; cases h; exact kk)
      | 4, k1, h =>
        simp only [ev_cmp] at h
        exact ev_ic_gt hX _ k1 k2 (fun z => by rw [ev_cmp_t z] at h; cases h; exact kk) (fun z => by rw [ev_cmp_f z] at h; cases h; exact kk)
      | n + 5, k1, h =>
        simp only [ev_cmp] at h
        exact ev_ic_le hX _ k1 k2 (fun z => by rw [ev_cmp_t z] at h; cases h; exact kk) (fun z => by rw [ev_cmp_f z] at h; cases h; exact kk)
    · cases h
  | 4, hj, h =>
    simp only [ev_js] at h
    split at h <;> cases h
  | 5, hj, h =>
    simp only [ev_js, cond] at h
    split at h
    · split at h <;> cases h
    · cases h
  | 6, hj, h =>
    obtain ⟨idx, rc, k1, k2, k3, k4, k5, k6⟩ := hj
    dsimp only at k1 k2
    subst k2
    cases h
    exact ev_new hX k1 k3 k4 k5 k6 hN kk
  | 7, hj, h =>
    simp only [ev_js, cond] at h
    split at h
    · split at h
      · rename_i hc
        simp only [Bool.and_eq_true, Bool.not_eq_true', decide_eq_false_iff_not, decide_eq_true_eq] at hc
        cases h
        exact ev_newarr hX hj.1 hc.1 hc.2 hj.2 hN kk
      · cases h
    · cases h
  | 8, hj, h =>
    obtain ⟨idx, k1, k2, k3⟩ := hj
    simp only [ev_js, cond] at h
    split at h
    · split at h
      · rename_i hc
        simp only [Bool.and_eq_true, Bool.not_eq_true', decide_eq_false_iff_not, decide_eq_true_eq] at hc
        cases h
        exact ev_newtow hX k1 k2 hc.1 hc.2 k3 hN kk
      · cases h
    · cases h
  | 9, hj, h =>
    obtain ⟨idx, rc, k1, k2, k3, k4, k5⟩ := hj
    simp only [ev_js, cond] at h
    split at h
    · split at h
      · rename_i hc
        simp only [Bool.and_eq_true, beq_iff_eq] at hc
        cases h
        rcases k4 with k4 | ⟨k4, k6, k7⟩
        · exact ev_putR hX hc.1 k1 k2 k3 k4 hc.2 k5 kk
        · subst k7
          exact ev_putF hX hc.1 k1 k2 k3 k4 k6 hc.2 k5 kk
      · cases h
    · cases h
  | 10, hj, h =>
    obtain ⟨idx, y, bs, mL, ret, d2, k1, k2, k3, k4, k5, k6⟩ := hj
    simp only [ev_js, cond] at h
    split at h
    · rename_i hc
      simp only [Bool.and_eq_true, decide_eq_true_eq] at hc
      split at h
      · rename_i v2 S2 D2 he
        cases h
        have hM := k6 _ _ _ _ _ _ he
        have hst : ((st.take b).reverse).reverse ++ st.drop b = st := by rw [List.reverse_reverse, List.take_append_drop]
        rw [← hst]
        have hlen : ((st.take b).reverse).length = b := by simp [hc.2]
        rcases k2 with k2 | ⟨host, k2⟩
        · exact ev_callS hX k1 k2 hM k3 hlen hc.1 k5 hN (by rw [k4]; exact kk)
        · exact ev_callSN hX k1 k2 hM k3 hlen hc.1 k5 hN (by rw [k4]; exact kk)
      · cases h
    · cases h
  | 11, hj, h =>
    obtain ⟨idx, y, bs, mL, d2, k1, k2, k3, k5, k6⟩ := hj
    simp only [ev_js, cond] at h
    split at h
    · rename_i q r hdr
      split at h
      · rename_i hc
        simp only [Bool.and_eq_true, Bool.not_eq_true', decide_eq_false_iff_not, decide_eq_true_eq] at hc
        split at h
        · rename_i v2 S2 D2 he
          cases h
          have hM := k6 _ _ _ _ _ _ he
          rw [← ev_drop_take b st st1 q hdr]
          have hlen : ((st.take b).reverse).length = b := by simp [hc.2.1]
          rcases k2 with k2 | ⟨host, k2⟩
          · exact ev_callI hX k1 k2 hM k3 hc.2.2 hlen hc.1 k5 hN kk
          · exact ev_callIN hX k1 k2 hM k3 hc.2.2 hlen hc.1 k5 hN kk
        · cases h
      · cases h
    · cases h
  | 12, hj, h =>
    obtain ⟨idx, k1, k2, k3, k4, k5⟩ := hj
    simp only [ev_js, cond] at h
    split at h
    · split at h
      · rename_i hc
        simp only [Bool.and_eq_true, Bool.not_eq_true', decide_eq_false_iff_not] at hc
        cases h
        exact ev_objinit hX k1 k2 k3 hc.2 k4 hc.1 k5 kk
      · cases h
    · cases h
  | 13, hj, h =>
    simp only [ev_js, cond] at h
    split at h
    · split at h
      · rename_i hc
        simp only [Bool.and_eq_true, beq_iff_eq] at hc
        cases h
        exact ev_aast hX hc.1 hc.2.1 hc.2.2 hj kk
      · cases h
    · cases h
  | 14, hj, h =>
    obtain ⟨idx, y, bs, mL, ret, d2, k1, k2, k3, k7, k4, k5, k6⟩ := hj
    simp only [ev_js, cond] at h
    split at h
    · rename_i q r hdr
      split at h
      · rename_i hc
        simp only [Bool.and_eq_true, decide_eq_true_eq, beq_iff_eq] at hc
        split at h
        · rename_i v2 S2 D2 he
          cases h
          have hM := k6 _ _ _ _ _ _ he
          rw [← ev_drop_take b st r q hdr]
          have hlen : ((st.take b).reverse).length = b := by simp [hc.2.1]
          exact ev_callV hX k1 k2 hM k3 _ hc.2.2 k7 hlen hc.1 k5 hN (by rw [k4]; exact kk)
        · cases h
      · cases h
    · cases h
  | 15, hj, h =>
    obtain ⟨off, k1, k2⟩ := hj
    simp only [ev_js] at h
    split at h
    · exact ev_nonnull hX _ k1 k2 (fun z => by rw [ev_cmp_f z] at h; cases h; exact kk) (fun z => by rw [ev_cmp_t z] at h; cases h; exact kk)
    · cases h
  | 16, hj, h =>
    cases h
    exact ev_nullc hX hj kk
  | n + 17, hj, h => cases h
theorem ev_fd_mem : ∀ (tb : List (Nat × ev_Jn)) (pc : Nat) (j : ev_Jn), ev_fd tb pc = some j → (pc, j) ∈ tb
  | [], _, _, h => by cases h
  | e :: r, pc, j, h => by
    simp only [ev_fd, cond] at h
    split at h
    · rename_i hc
      cases h
      have := Nat.eq_of_beq_eq_true hc
      subst this
      exact List.mem_cons_self
    · exact List.mem_cons_of_mem _ (ev_fd_mem r pc j h)
theorem ev_run_mono {tb : List (Nat × ev_Jn)} : ∀ (n pc : Nat) (lv : ev_V) (st : List Value) (S : ev_S) (D : ev_D), ev_run tb cf n pc lv st S D = some (v, S', D') → sC S ≤ sC S' ∧ sA S ≤ sA S'
  | 0, _, _, _, _, _, h => by cases h
  | n + 1, pc, lv, st, S, D, h => by
    rw [ev_run] at h
    split at h
    · cases h
    · rename_i j hj
      split at h
      · cases h
      · rename_i r hs
        cases h
        obtain ⟨tag, it, a, b, c⟩ := j
        match tag, hs with
        | 4, hs =>
          simp only [ev_js] at hs
          split at hs
          · cases hs; exact ⟨Nat.le_refl _, Nat.le_refl _⟩
          · cases hs
        | 5, hs =>
          simp only [ev_js, cond] at hs
          split at hs
          · split at hs
            · cases hs; exact ⟨Nat.le_refl _, Nat.le_refl _⟩
            · cases hs
          · cases hs
        | 0, hs => simp only [ev_js] at hs; split at hs <;> cases hs
        | 1, hs => cases hs
        | 2, hs => simp only [ev_js] at hs; split at hs <;> cases hs
        | 3, hs => simp only [ev_js] at hs; split at hs <;> cases hs
        | 6, hs => cases hs
        | 7, hs => simp only [ev_js, cond] at hs; split at hs <;> (try split at hs) <;> cases hs
        | 8, hs => simp only [ev_js, cond] at hs; split at hs <;> (try split at hs) <;> cases hs
        | 9, hs => simp only [ev_js, cond] at hs; split at hs <;> (try split at hs) <;> cases hs
        | 10, hs => simp only [ev_js, cond] at hs; split at hs <;> (try split at hs) <;> cases hs
        | 11, hs => simp only [ev_js, cond] at hs; split at hs <;> (try split at hs) <;> (try split at hs) <;> cases hs
        | 12, hs => simp only [ev_js, cond] at hs; split at hs <;> (try split at hs) <;> cases hs
        | 13, hs => simp only [ev_js, cond] at hs; split at hs <;> (try split at hs) <;> cases hs
        | 14, hs => simp only [ev_js, cond] at hs; split at hs <;> (try split at hs) <;> (try split at hs) <;> cases hs
        | 15, hs => simp only [ev_js] at hs; split at hs <;> cases hs
        | 16, hs => cases hs
        | n + 17, hs => cases hs
      · rename_i pc1 lv1 st1 S1 D1 hs
        have h1 := ev_js_mono hs
        have h2 := ev_run_mono n pc1 lv1 st1 S1 D1 h
        exact ⟨Nat.le_trans h1.1 h2.1, Nat.le_trans h1.2 h2.2⟩
theorem ev_run_ok {tb : List (Nat × ev_Jn)} (hR : ev_R own cc nL d (sC S') (sA S') ini ret S' (v, D') F) (hret : ret = none ∨ ret = some .boolean) (htb : ∀ e ∈ tb, ev_jok cf own cc nL d ini e.1 e.2) (htag : ∀ e ∈ tb, (e.2.1 = 4 → ret = none) ∧ (e.2.1 = 5 → ret = some .boolean)) : ∀ (n pc : Nat) (lv : ev_V) (st : List Value) (S : ev_S) (D : ev_D), ev_run tb cf n pc lv st S D = some (v, S', D') → F S D pc lv st
  | 0, _, _, _, _, _, h => by cases h
  | n + 1, pc, lv, st, S, D, h => by
    rw [ev_run] at h
    split at h
    · cases h
    · rename_i j hj
      have hm := ev_fd_mem tb pc j hj
      have hok := htb _ hm
      have htg := htag _ hm
      split at h
      · cases h
      · rename_i r hs
        cases h
        obtain ⟨tag, it, a, b, c⟩ := j
        match tag, hs, hok, htg with
        | 4, hs, hok, htg =>
          have e := htg.1 rfl
          subst e
          simp only [ev_js] at hs
          split at hs
          · cases hs
            exact ev_vret hR ev_sm.rf rfl ⟨Nat.le_refl _, Nat.le_refl _⟩ hok
          · cases hs
        | 5, hs, hok, htg =>
          have e := htg.2 rfl
          subst e
          simp only [ev_js, cond] at hs
          split at hs
          · split at hs
            · rename_i hz
              cases hs
              exact ev_zret hR ev_sm.rf (by simpa using hz) rfl ⟨Nat.le_refl _, Nat.le_refl _⟩ hok
            · cases hs
          · cases hs
        | 0, hs, _, _ => simp only [ev_js] at hs; split at hs <;> cases hs
        | 1, hs, _, _ => cases hs
        | 2, hs, _, _ => simp only [ev_js] at hs; split at hs <;> cases hs
        | 3, hs, _, _ => simp only [ev_js] at hs; split at hs <;> cases hs
        | 6, hs, _, _ => cases hs
        | 7, hs, _, _ => simp only [ev_js, cond] at hs; split at hs <;> (try split at hs) <;> cases hs
        | 8, hs, _, _ => simp only [ev_js, cond] at hs; split at hs <;> (try split at hs) <;> cases hs
        | 9, hs, _, _ => simp only [ev_js, cond] at hs; split at hs <;> (try split at hs) <;> cases hs
        | 10, hs, _, _ => simp only [ev_js, cond] at hs; split at hs <;> (try split at hs) <;> cases hs
        | 11, hs, _, _ => simp only [ev_js, cond] at hs; split at hs <;> (try split at hs) <;> (try split at hs) <;> cases hs
        | 12, hs, _, _ => simp only [ev_js, cond] at hs; split at hs <;> (try split at hs) <;> cases hs
        | 13, hs, _, _ => simp only [ev_js, cond] at hs; split at hs <;> (try split at hs) <;> cases hs
        | 14, hs, _, _ => simp only [ev_js, cond] at hs; split at hs <;> (try split at hs) <;> (try split at hs) <;> cases hs
        | 15, hs, _, _ => simp only [ev_js] at hs; split at hs <;> cases hs
        | 16, hs, _, _ => cases hs
        | n + 17, hs, _, _ => cases hs
      · rename_i pc1 lv1 st1 S1 D1 hs
        have h2 := ev_run_mono n pc1 lv1 st1 S1 D1 h
        exact ev_js_ok hR.X hok hs h2 (ev_run_ok hR hret htb htag n pc1 lv1 st1 S1 D1 h)
end Run
