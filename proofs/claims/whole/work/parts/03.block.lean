/-! ===== stretches of plain instructions as a function ===== -/
abbrev ev_V : Type := List (Option Value)
abbrev ev_O : Type := Option (Bool × ev_V × List Value × ev_D)
/-- an instruction, its length, class and slot of its field, its number -/
abbrev ev_I : Type := Instr × Nat × Nat × Nat × Int32
def ev_ldi (lv : ev_V) (st : List Value) (D : ev_D) (i : Nat) : ev_O := match lv[i]? with
  | some (some (.int x)) => some (true, lv, .int x :: st, D)
  | _ => none
def ev_lda (lv : ev_V) (st : List Value) (D : ev_D) (i : Nat) : ev_O := match lv[i]? with
  | some (some (.ref x)) => some (true, lv, .ref x :: st, D)
  | _ => none
def ev_sti (lv : ev_V) (st : List Value) (D : ev_D) (i : Nat) : ev_O := match st with
  | .int x :: r => some (true, lv.set i (some (.int x)), r, D)
  | _ => none
def ev_sta (lv : ev_V) (st : List Value) (D : ev_D) (i : Nat) : ev_O := match st with
  | .ref x :: r => some (true, lv.set i (some (.ref x)), r, D)
  | _ => none
def ev_b2 (lv : ev_V) (st : List Value) (D : ev_D) (f : Int32 → Int32 → Int32) : ev_O := match st with
  | .int y :: .int x :: r => some (true, lv, .int (f x y) :: r, D)
  | _ => none
def ev_dv (lv : ev_V) (st : List Value) (D : ev_D) (f : Int32 → Int32 → Int32) : ev_O := match st with
  | .int y :: .int x :: r => some (!(decide (y = 0)), lv, .int (f x y) :: r, D)
  | _ => none
def ev_un (lv : ev_V) (st : List Value) (D : ev_D) (f : Int32 → Int32) : ev_O := match st with
  | .int x :: r => some (true, lv, .int (f x) :: r, D)
  | _ => none
def ev_inc (lv : ev_V) (st : List Value) (D : ev_D) (i : Nat) (v : Int32) : ev_O := match lv[i]? with
  | some (some (.int x)) => some (true, lv.set i (some (.int (x + v))), st, D)
  | _ => none
def ev_dup (lv : ev_V) (st : List Value) (D : ev_D) : ev_O := match st with
  | .int x :: r => some (true, lv, .int x :: .int x :: r, D)
  | .ref x :: r => some (true, lv, .ref x :: .ref x :: r, D)
  | _ => none
def ev_du2 (lv : ev_V) (st : List Value) (D : ev_D) : ev_O := match st with
  | .int y :: .ref x :: r => some (true, lv, .int y :: .ref x :: .int y :: .ref x :: r, D)
  | _ => none
def ev_pop (lv : ev_V) (st : List Value) (D : ev_D) : ev_O := match st with
  | .int _ :: r => some (true, lv, r, D)
  | _ => none
def ev_get (S : ev_S) (lv : ev_V) (st : List Value) (D : ev_D) (c i : Nat) : ev_O := match st with
  | .ref q :: r => (match ev_isr (ev_ft c i) with
    | true => some (sK S q == c + 3, lv, .ref (sE S q i) :: r, D)
    | false => some (sK S q == c + 3, lv, .int (D q i) :: r, D))
  | _ => none
def ev_put (S : ev_S) (lv : ev_V) (st : List Value) (D : ev_D) (c i : Nat) : ev_O := match st with
  | .int x :: .ref q :: r => (match ev_ft c i with
    | .int => some (sK S q == c + 3, lv, r, ev_up D q i x)
    | .boolean => some (sK S q == c + 3 && (x == 0 || x == 1), lv, r, ev_up D q i x)
    | _ => none)
  | _ => none
def ev_ald (S : ev_S) (lv : ev_V) (st : List Value) (D : ev_D) : ev_O := match st with
  | .int j :: .ref q :: r => some (sK S q == 1 && ev_in j (sL S q), lv, .int (D q j.toNatClampNeg) :: r, D)
  | _ => none
def ev_ast (S : ev_S) (lv : ev_V) (st : List Value) (D : ev_D) : ev_O := match st with
  | .int x :: .int j :: .ref q :: r => some (sK S q == 1 && ev_in j (sL S q), lv, r, ev_up D q j.toNatClampNeg x)
  | _ => none
def ev_len (S : ev_S) (lv : ev_V) (st : List Value) (D : ev_D) : ev_O := match st with
  | .ref q :: r => some (sK S q == 1, lv, .int (Int32.ofNat (sL S q)) :: r, D)
  | _ => none
def ev_sx (S : ev_S) (it : ev_I) (lv : ev_V) (st : List Value) (D : ev_D) : ev_O := match it.1 with
  | .iconst _ => some (true, lv, .int it.2.2.2.2 :: st, D)
  | .bipush _ => some (true, lv, .int it.2.2.2.2 :: st, D)
  | .sipush _ => some (true, lv, .int it.2.2.2.2 :: st, D)
  | .ldc _ => some (true, lv, .int it.2.2.2.2 :: st, D)
  | .ldc_w _ => some (true, lv, .int it.2.2.2.2 :: st, D)
  | .iload_n k => ev_ldi lv st D k.val
  | .iload i => ev_ldi lv st D i
  | .aload_n k => ev_lda lv st D k.val
  | .aload i => ev_lda lv st D i
  | .istore_n k => ev_sti lv st D k.val
  | .istore i => ev_sti lv st D i
  | .astore_n k => ev_sta lv st D k.val
  | .astore i => ev_sta lv st D i
  | .iinc i _ => ev_inc lv st D i it.2.2.2.2
  | .iadd => ev_b2 lv st D (fun x y => x + y)
  | .isub => ev_b2 lv st D (fun x y => x - y)
  | .imul => ev_b2 lv st D (fun x y => x * y)
  | .iand => ev_b2 lv st D (fun x y => x &&& y)
  | .ior => ev_b2 lv st D (fun x y => x ||| y)
  | .ixor => ev_b2 lv st D (fun x y => x ^^^ y)
  | .ishl => ev_b2 lv st D (fun x y => x <<< (y &&& 31))
  | .ishr => ev_b2 lv st D (fun x y => x >>> (y &&& 31))
  | .iushr => ev_b2 lv st D (fun x y => (x.toUInt32 >>> (y.toUInt32 &&& Int32.toUInt32 31)).toInt32)
  | .idiv => ev_dv lv st D (fun x y => x / y)
  | .irem => ev_dv lv st D (fun x y => x - x / y * y)
  | .ineg => ev_un lv st D (fun x => -x)
  | .i2c => ev_un lv st D (fun x => (x.toUInt32 % 65536).toInt32)
  | .dup => ev_dup lv st D
  | .dup2 => ev_du2 lv st D
  | .pop => ev_pop lv st D
  | .getfield _ => ev_get S lv st D it.2.2.1 it.2.2.2.1
  | .putfield _ => ev_put S lv st D it.2.2.1 it.2.2.2.1
  | .iaload => ev_ald S lv st D
  | .iastore => ev_ast S lv st D
  | .arraylength => ev_len S lv st D
  | _ => none
def ev_bk (S : ev_S) : List ev_I → ev_V → List Value → ev_D → ev_O
  | [], lv, st, D => some (true, lv, st, D)
  | it :: r, lv, st, D => match ev_sx S it lv st D with
    | none => none
    | some (g, lv1, st1, D1) => match ev_bk S r lv1 st1 D1 with
      | none => none
      | some (g2, lv2, st2, D2) => some (g && g2, lv2, st2, D2)
/-- the links of a class's code: pool index, class and slot of a field; pool index and constant -/
abbrev ev_LK : Type := List (Nat × Nat × Nat) × List (Nat × Int32)
def ev_link (own : String) (e : Nat × Nat × Nat) : Cond := match vwCl[e.2.1]? with
  | some r => .fieldLink own e.1 (r.2.1 e.2.2).1 (r.2.1 e.2.2).2.1 (r.2.1 e.2.2).2.2.1
  | none => .tt
def ev_lkB (e : Nat × Nat × Nat) : Bool := match vwCl[e.2.1]? with
  | some r => decide (e.2.2 < r.2.2)
  | none => false
def ev_lkok (own : String) (lk : ev_LK) : Prop := GoodIn lw_tbl (lk.1.map (ev_link own)) ∧ lk.1.all ev_lkB = true ∧ GoodIn lw_tbl (lk.2.map fun e => Cond.constant own e.1 e.2)
def ev_ok1 (lk : ev_LK) (nL : Nat) (it : ev_I) : Bool := match it.1 with
  | .iconst n => decide (it.2.1 = 1) && decide (Int32.ofInt n = it.2.2.2.2)
  | .bipush n => decide (it.2.1 = 2) && decide ((Int8.ofInt n).toInt32 = it.2.2.2.2)
  | .sipush n => decide (it.2.1 = 3) && decide ((Int16.ofInt n).toInt32 = it.2.2.2.2)
  | .ldc i => decide (it.2.1 = 2) && lk.2.contains (i, it.2.2.2.2)
  | .ldc_w i => decide (it.2.1 = 3) && lk.2.contains (i, it.2.2.2.2)
  | .iload_n _ => decide (it.2.1 = 1)
  | .iload _ => decide (it.2.1 = 2)
  | .aload_n _ => decide (it.2.1 = 1)
  | .aload _ => decide (it.2.1 = 2)
  | .istore_n k => decide (it.2.1 = 1) && decide (k.val < nL)
  | .istore i => decide (it.2.1 = 2) && decide (i < nL)
  | .astore_n k => decide (it.2.1 = 1) && decide (k.val < nL)
  | .astore i => decide (it.2.1 = 2) && decide (i < nL)
  | .iinc i n => decide (it.2.1 = 3) && (decide (Int32.ofInt n = it.2.2.2.2) && decide (i < nL))
  | .getfield i => decide (it.2.1 = 3) && lk.1.contains (i, it.2.2.1, it.2.2.2.1)
  | .putfield i => decide (it.2.1 = 3) && (lk.1.contains (i, it.2.2.1, it.2.2.2.1) && (match vwCl[it.2.2.1]? with
    | some r => !((r.2.1 it.2.2.2.1).2.2.2)
    | none => false))
  | _ => decide (it.2.1 = 1)
def ev_chk (cc : ByteArray) (lk : ev_LK) (nL : Nat) : Nat → List ev_I → Bool
  | _, [] => true
  | pc, it :: r => decide (decode cc pc = .ok (it.1, it.2.1)) && (ev_ok1 lk nL it && ev_chk cc lk nL (pc + it.2.1) r)
def ev_lens : List ev_I → Nat
  | [] => 0
  | it :: r => it.2.1 + ev_lens r
theorem ev_ldi_s {lv lv' : ev_V} {st st' : List Value} {D D' : ev_D} {i : Nat} {g : Bool} (h : ev_ldi lv st D i = some (g, lv', st', D')) : ∃ x, lv[i]? = some (some (.int x)) ∧ lv' = lv ∧ st' = .int x :: st ∧ D' = D := by
  unfold ev_ldi at h
  split at h
  · rename_i x hx; cases h; exact ⟨x, hx, rfl, rfl, rfl⟩
  · cases h
theorem ev_lda_s {lv lv' : ev_V} {st st' : List Value} {D D' : ev_D} {i : Nat} {g : Bool} (h : ev_lda lv st D i = some (g, lv', st', D')) : ∃ x, lv[i]? = some (some (.ref x)) ∧ lv' = lv ∧ st' = .ref x :: st ∧ D' = D := by
  unfold ev_lda at h
  split at h
  · rename_i x hx; cases h; exact ⟨x, hx, rfl, rfl, rfl⟩
  · cases h
theorem ev_sti_s {lv lv' : ev_V} {st st' : List Value} {D D' : ev_D} {i : Nat} {g : Bool} (h : ev_sti lv st D i = some (g, lv', st', D')) : ∃ x, st = .int x :: st' ∧ lv' = lv.set i (some (.int x)) ∧ D' = D := by
  unfold ev_sti at h
  split at h
  · rename_i x r; cases h; exact ⟨x, rfl, rfl, rfl⟩
  · cases h
theorem ev_sta_s {lv lv' : ev_V} {st st' : List Value} {D D' : ev_D} {i : Nat} {g : Bool} (h : ev_sta lv st D i = some (g, lv', st', D')) : ∃ x, st = .ref x :: st' ∧ lv' = lv.set i (some (.ref x)) ∧ D' = D := by
  unfold ev_sta at h
  split at h
  · rename_i x r; cases h; exact ⟨x, rfl, rfl, rfl⟩
  · cases h
theorem ev_b2_s {lv lv' : ev_V} {st st' : List Value} {D D' : ev_D} {f : Int32 → Int32 → Int32} {g : Bool} (h : ev_b2 lv st D f = some (g, lv', st', D')) : ∃ x y r, st = .int y :: .int x :: r ∧ lv' = lv ∧ st' = .int (f x y) :: r ∧ D' = D := by
  unfold ev_b2 at h
  split at h
  · rename_i y x r; cases h; exact ⟨x, y, r, rfl, rfl, rfl, rfl⟩
  · cases h
theorem ev_dv_s {lv lv' : ev_V} {st st' : List Value} {D D' : ev_D} {f : Int32 → Int32 → Int32} (h : ev_dv lv st D f = some (true, lv', st', D')) : ∃ x y r, st = .int y :: .int x :: r ∧ ¬ y = 0 ∧ lv' = lv ∧ st' = .int (f x y) :: r ∧ D' = D := by
  unfold ev_dv at h
  split at h
  · rename_i y x r
    simp only [Option.some.injEq, Prod.mk.injEq, Bool.not_eq_true', decide_eq_false_iff_not] at h
    obtain ⟨h1, rfl, rfl, rfl⟩ := h
    exact ⟨x, y, r, rfl, h1, rfl, rfl, rfl⟩
  · cases h
theorem ev_un_s {lv lv' : ev_V} {st st' : List Value} {D D' : ev_D} {f : Int32 → Int32} {g : Bool} (h : ev_un lv st D f = some (g, lv', st', D')) : ∃ x r, st = .int x :: r ∧ lv' = lv ∧ st' = .int (f x) :: r ∧ D' = D := by
  unfold ev_un at h
  split at h
  · rename_i x r; cases h; exact ⟨x, r, rfl, rfl, rfl, rfl⟩
  · cases h
theorem ev_inc_s {lv lv' : ev_V} {st st' : List Value} {D D' : ev_D} {i : Nat} {v : Int32} {g : Bool} (h : ev_inc lv st D i v = some (g, lv', st', D')) : ∃ x, lv[i]? = some (some (.int x)) ∧ lv' = lv.set i (some (.int (x + v))) ∧ st' = st ∧ D' = D := by
  unfold ev_inc at h
  split at h
  · rename_i x hx; cases h; exact ⟨x, hx, rfl, rfl, rfl⟩
  · cases h
