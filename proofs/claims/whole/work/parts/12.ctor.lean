/-! ===== constructors, by the interpreter ===== -/
theorem ev_bif {a : Bool} {c : Bool} {x : Option ev_Rs} {r : ev_Rs} (h : (bif a && c then x else none) = some r) : a = true ∧ c = true ∧ x = some r := by
  cases a <;> cases c <;> first | exact ⟨rfl, rfl, h⟩ | cases h
theorem ev_all2 {p : Nat × ev_Jn → Bool} {a b : List (Nat × ev_Jn)} (h1 : a.all p = true) (h2 : b.all p = true) : (a ++ b).all p = true := by rw [List.all_append, h1, h2]; rfl
def ev_pk (cc : ByteArray) (lk : ev_LK) (nL : Nat) (e : Nat × ev_Jn) : Bool := !(e.2.1 == 0) || (decide (decode cc e.1 = .ok (e.2.2.1.1, e.2.2.1.2.1)) && ev_ok1 lk nL e.2.2.1)
theorem ev_tball {cf : ev_Cf} {own : String} {cc : ByteArray} {nL d : Nat} {ini : Bool} {tb tn : List (Nat × ev_Jn)} {lk : ev_LK} (hlk : ev_lkok own lk) (h0 : tb.all (ev_pk cc lk nL) = true) (h1 : tb.filter (fun e => !(e.2.1 == 0)) = tn) (hn : ∀ e ∈ tn, ev_jok cf own cc nL d ini e.1 e.2) : ∀ e ∈ tb, ev_jok cf own cc nL d ini e.1 e.2 := by
  intro e he
  have a0 := List.all_eq_true.mp h0 e he
  unfold ev_pk at a0
  by_cases ht : e.2.1 = 0
  · rw [ht] at a0
    simp only [beq_self_eq_true, Bool.not_true, Bool.false_or, Bool.and_eq_true, decide_eq_true_eq] at a0
    obtain ⟨pc, tag, it, a, b, c⟩ := e
    dsimp only at ht
    subst ht
    exact ⟨lk, hlk, a0.1, a0.2⟩
  · exact hn e (by rw [← h1]; exact List.mem_filter.mpr ⟨he, by simpa using ht⟩)
theorem ev_no5 {tb : List (Nat × ev_Jn)} (h : tb.all (fun e => !(e.2.1 == 5)) = true) : ∀ e ∈ tb, (e.2.1 = 4 → (none : Option FieldType) = none) ∧ (e.2.1 = 5 → (none : Option FieldType) = some .boolean) := by
  intro e he
  have a := List.all_eq_true.mp h e he
  refine ⟨fun _ => rfl, fun z => ?_⟩
  rw [z] at a
  cases a

theorem ac_int : Cond.arrayClass .int ∈ lw_tbl := (mt_1 (List.mem_of_getElem? (i := 120) rfl))
theorem ac_tow : Cond.arrayOver (.object "DeafBells$Tower") ∈ lw_tbl := (mt_2 (List.mem_of_getElem? (i := 52) rfl))
theorem ac_oi : Cond.instanceMethod Lib.objectInit ∈ lw_tbl := (mt_1 (List.mem_of_getElem? (i := 29) rfl))
theorem ac_oc : Cond.code Lib.objectInit ⟨#[0xb1]⟩ 1 none ∈ lw_tbl := (mt_1 (List.mem_of_getElem? (i := 30) rfl))
set_option maxHeartbeats 4000000 in
set_option maxRecDepth 100000 in
theorem uJ7_fill_5 {S : ev_S} {fu : Nat} {r : Int32 × ev_D} {F : ev_Fr} (hR : ev_R RJ7 cJ7_fill_53178 4 0 0 0 false none S r F) (hC : sC S ≤ 0 ∧ sA S ≤ 0) : ∀ (n : Nat) (l0 : Nat) (l1 : Int32) (l2 : Int32) (l3 : Int32) (D : ev_D), sK S l0 = 1 → fJ7_fill_5 (sL S) (sE S) fu n l0 l1 l2 l3 D = some r → F S D 5 [some (.ref l0), some (.int l1), some (.int l2), some (.int l3)] [] := by
  have hX := hR.X
  intro n
  induction n with
  | zero =>
    intro l0 l1 l2 l3 D hl0 hf
    rw [fJ7_fill_5] at hf
    cases hf
  | succ n ih =>
    intro l0 l1 l2 l3 D hl0 hf
    rw [fJ7_fill_5] at hf
    refine ev_blk hX lkok_RJ7 [(.iload_n 2, 1, 0, 0, 0), (.iload_n 3, 1, 0, 0, 0)] (by decide +kernel) (g := true) (lv' := [some (.ref l0), some (.int l1), some (.int l2), some (.int l3)]) (st' := [.int l3, .int l2]) (D' := D) (pc' := 7) rfl (rfl) rfl ?_
    refine ev_ic_ge hX (off := 13) 20 (by decide +kernel) (by decide) (fun h1 => ?_) (fun h1 => ?_)
    · have hf := ev_it h1 hf
      exact ev_vret hR ev_sm.rf (Option.some.inj hf) hC (by decide +kernel)
    · have hf := ev_nf h1 hf
      obtain ⟨hg2, hf⟩ := ev_gd_s hf
      refine ev_blk hX lkok_RJ7 [(.aload_n 0, 1, 0, 0, 0), (.iload_n 2, 1, 0, 0, 0), (.iload_n 1, 1, 0, 0, 0), (.iastore, 1, 0, 0, 0), (.iinc 2 1, 3, 0, 0, 1)] (by decide +kernel) (g := (sK S l0 == 1 && ev_in l2 ((sL S) l0)) && (true)) (lv' := [some (.ref l0), some (.int l1), some (.int (l2 + (1 : Int32))), some (.int l3)]) (st' := []) (D' := (ev_up D l0 (l2).toNatClampNeg l1)) (pc' := 17) rfl (ev_gi hl0 hg2 (rfl)) rfl ?_
      refine ev_goto hX (off := (-12)) 5 (by decide +kernel) (by decide) ?_
      exact ev_weak hX (ev_le_eq (ev_le_eq (ev_le_eq (ev_le_eq ev_le_nil)))) (ih _ _ _ _ _ hl0 hf)
set_option maxHeartbeats 4000000 in
set_option maxRecDepth 100000 in
theorem uJ7_fill {S : ev_S} {fu : Nat} {r : Int32 × ev_D} {F : ev_Fr} (hR : ev_R RJ7 cJ7_fill_53178 4 0 0 0 false none S r F) (hC : sC S ≤ 0 ∧ sA S ≤ 0) {l0 : Nat} {l1 : Int32} {D : ev_D} (hl0 : sK S l0 = 1) (hf : fJ7_fill (sL S) (sE S) fu l0 l1 D = some r) : F S D 0 [some (.ref l0), some (.int l1), none, none] [] := by
  have hX := hR.X
  unfold fJ7_fill at hf
  refine ev_blk hX lkok_RJ7 [(.iconst 0, 1, 0, 0, 0), (.istore_n 2, 1, 0, 0, 0), (.aload_n 0, 1, 0, 0, 0), (.arraylength, 1, 0, 0, 0), (.istore_n 3, 1, 0, 0, 0)] (by decide +kernel) (g := (sK S l0 == 1) && (true)) (lv' := [some (.ref l0), some (.int l1), some (.int (0 : Int32)), some (.int (Int32.ofNat ((sL S) l0)))]) (st' := []) (D' := D) (pc' := 5) rfl (ev_gk hl0 (rfl)) rfl ?_
  exact ev_weak hX (ev_le_eq (ev_le_eq (ev_le_eq (ev_le_eq ev_le_nil)))) (uJ7_fill_5 hR hC   fu _ _ _ _ _ hl0 hf)
theorem nJ7_fill {S : ev_S} {fu : Nat} {r : Int32 × ev_D} {l0 : Nat} {l1 : Int32} {D : ev_D} (hl0 : sK S l0 = 1) (hf : fJ7_fill (sL S) (sE S) fu l0 l1 D = some r) : ev_M 0 0 0 yJ7_fill_53178 cJ7_fill_53178 4 none [.ref l0, .int l1] S D S r :=
  ev_met (ini := false) (plainFor_of_name (by decide)) (fun h => by cases h) rfl (Nat.le_of_ble_eq_true rfl) (fun F hR => uJ7_fill (S := ev_z S) hR ⟨Nat.le_refl 0, Nat.le_refl 0⟩ hl0 hf)
set_option maxHeartbeats 4000000 in
set_option maxRecDepth 100000 in
theorem uJ9_max {S : ev_S} {fu : Nat} {r : Int32 × ev_D} {F : ev_Fr} (hR : ev_R RJ9 cJ9_max_7cf53 2 0 0 0 false (some .int) S r F) (hC : sC S ≤ 0 ∧ sA S ≤ 0) {l0 : Int32} {l1 : Int32} {D : ev_D}  (hf : fJ9_max (sL S) (sE S) fu l0 l1 D = some r) : F S D 0 [some (.int l0), some (.int l1)] [] := by
  have hX := hR.X
  unfold fJ9_max at hf
  refine ev_blk hX lkok_RJ9 [(.iload_n 0, 1, 0, 0, 0), (.iload_n 1, 1, 0, 0, 0)] (by decide +kernel) (g := true) (lv' := [some (.int l0), some (.int l1)]) (st' := [.int l1, .int l0]) (D' := D) (pc' := 2) rfl (rfl) rfl ?_
  refine ev_ic_lt hX (off := 7) 9 (by decide +kernel) (by decide) (fun h1 => ?_) (fun h1 => ?_)
  · have hf := ev_it h1 hf
    refine ev_blk hX lkok_RJ9 [(.iload_n 1, 1, 0, 0, 0)] (by decide +kernel) (g := true) (lv' := [some (.int l0), some (.int l1)]) (st' := [.int l1]) (D' := D) (pc' := 10) rfl (rfl) rfl ?_
    exact ev_iret hR ev_sm.rf (Option.some.inj hf) hC (by decide +kernel)
  · have hf := ev_nf h1 hf
    refine ev_blk hX lkok_RJ9 [(.iload_n 0, 1, 0, 0, 0)] (by decide +kernel) (g := true) (lv' := [some (.int l0), some (.int l1)]) (st' := [.int l0]) (D' := D) (pc' := 6) rfl (rfl) rfl ?_
    refine ev_goto hX (off := 4) 10 (by decide +kernel) (by decide) ?_
    exact ev_iret hR ev_sm.rf (Option.some.inj hf) hC (by decide +kernel)
theorem nJ9_max {S : ev_S} {fu : Nat} {r : Int32 × ev_D} {l0 : Int32} {l1 : Int32} {D : ev_D}  (hf : fJ9_max (sL S) (sE S) fu l0 l1 D = some r) : ev_M 0 0 0 yJ9_max_7cf53 cJ9_max_7cf53 2 (some .int) [.int l0, .int l1] S D S r :=
  ev_met (ini := false) (by decide +kernel) (fun h => by cases h) rfl (Nat.le_of_ble_eq_true rfl) (fun F hR => uJ9_max (S := ev_z S) hR ⟨Nat.le_refl 0, Nat.le_refl 0⟩  hf)
set_option maxHeartbeats 4000000 in
set_option maxRecDepth 100000 in
theorem uX3_leastBeside_2 {S : ev_S} {fu : Nat} {r : Int32 × ev_D} {F : ev_Fr} (hR : ev_R RX3 cX3_leastBeside 3 0 0 0 false (some .int) S r F) (hC : sC S ≤ 0 ∧ sA S ≤ 0) : ∀ (n : Nat) (l0 : Int32) (l1 : Int32) (l2 : Int32) (D : ev_D), fX3_leastBeside_2 (sL S) (sE S) fu n l0 l1 l2 D = some r → F S D 2 [some (.int l0), some (.int l1), some (.int l2)] [] := by
  have hX := hR.X
  intro n
  induction n with
  | zero =>
    intro l0 l1 l2 D  hf
    rw [fX3_leastBeside_2] at hf
    cases hf
  | succ n ih =>
    intro l0 l1 l2 D  hf
    rw [fX3_leastBeside_2] at hf
    refine ev_blk hX lkok_RX3 [(.iload_n 2, 1, 0, 0, 0), (.iconst 2, 1, 0, 0, 2)] (by decide +kernel) (g := true) (lv' := [some (.int l0), some (.int l1), some (.int l2)]) (st' := [.int (2 : Int32), .int l2]) (D' := D) (pc' := 4) rfl (rfl) rfl ?_
    refine ev_ic_ge hX (off := 21) 25 (by decide +kernel) (by decide) (fun h1 => ?_) (fun h1 => ?_)
    · have hf := ev_it h1 hf
      refine ev_blk hX lkok_RX3 [(.iconst 2, 1, 0, 0, 2)] (by decide +kernel) (g := true) (lv' := [some (.int l0), some (.int l1), some (.int l2)]) (st' := [.int (2 : Int32)]) (D' := D) (pc' := 26) rfl (rfl) rfl ?_
      exact ev_iret hR ev_sm.rf (Option.some.inj hf) hC (by decide +kernel)
    · have hf := ev_nf h1 hf
      refine ev_blk hX lkok_RX3 [(.iload_n 2, 1, 0, 0, 0), (.iload_n 0, 1, 0, 0, 0)] (by decide +kernel) (g := true) (lv' := [some (.int l0), some (.int l1), some (.int l2)]) (st' := [.int l0, .int l2]) (D' := D) (pc' := 9) rfl (rfl) rfl ?_
      refine ev_ic_eq hX (off := 10) 19 (by decide +kernel) (by decide) (fun h2 => ?_) (fun h2 => ?_)
      · have hf := ev_it h2 hf
        refine ev_blk hX lkok_RX3 [(.iinc 2 1, 3, 0, 0, 1)] (by decide +kernel) (g := true) (lv' := [some (.int l0), some (.int l1), some (.int (l2 + (1 : Int32)))]) (st' := []) (D' := D) (pc' := 22) rfl (rfl) rfl ?_
        refine ev_goto hX (off := (-20)) 2 (by decide +kernel) (by decide) ?_
        exact ev_weak hX (ev_le_eq (ev_le_eq (ev_le_eq ev_le_nil))) (ih _ _ _ _  hf)
      · have hf := ev_nf h2 hf
        refine ev_blk hX lkok_RX3 [(.iload_n 2, 1, 0, 0, 0), (.iload_n 1, 1, 0, 0, 0)] (by decide +kernel) (g := true) (lv' := [some (.int l0), some (.int l1), some (.int l2)]) (st' := [.int l1, .int l2]) (D' := D) (pc' := 14) rfl (rfl) rfl ?_
        refine ev_ic_eq hX (off := 5) 19 (by decide +kernel) (by decide) (fun h3 => ?_) (fun h3 => ?_)
        · have hf := ev_it h3 hf
          refine ev_blk hX lkok_RX3 [(.iinc 2 1, 3, 0, 0, 1)] (by decide +kernel) (g := true) (lv' := [some (.int l0), some (.int l1), some (.int (l2 + (1 : Int32)))]) (st' := []) (D' := D) (pc' := 22) rfl (rfl) rfl ?_
          refine ev_goto hX (off := (-20)) 2 (by decide +kernel) (by decide) ?_
          exact ev_weak hX (ev_le_eq (ev_le_eq (ev_le_eq ev_le_nil))) (ih _ _ _ _  hf)
        · have hf := ev_nf h3 hf
          refine ev_blk hX lkok_RX3 [(.iload_n 2, 1, 0, 0, 0)] (by decide +kernel) (g := true) (lv' := [some (.int l0), some (.int l1), some (.int l2)]) (st' := [.int l2]) (D' := D) (pc' := 18) rfl (rfl) rfl ?_
          exact ev_iret hR ev_sm.rf (Option.some.inj hf) hC (by decide +kernel)
set_option maxHeartbeats 4000000 in
set_option maxRecDepth 100000 in
theorem uX3_leastBeside {S : ev_S} {fu : Nat} {r : Int32 × ev_D} {F : ev_Fr} (hR : ev_R RX3 cX3_leastBeside 3 0 0 0 false (some .int) S r F) (hC : sC S ≤ 0 ∧ sA S ≤ 0) {l0 : Int32} {l1 : Int32} {D : ev_D}  (hf : fX3_leastBeside (sL S) (sE S) fu l0 l1 D = some r) : F S D 0 [some (.int l0), some (.int l1), none] [] := by
  have hX := hR.X
  unfold fX3_leastBeside at hf
  refine ev_blk hX lkok_RX3 [(.iconst 0, 1, 0, 0, 0), (.istore_n 2, 1, 0, 0, 0)] (by decide +kernel) (g := true) (lv' := [some (.int l0), some (.int l1), some (.int (0 : Int32))]) (st' := []) (D' := D) (pc' := 2) rfl (rfl) rfl ?_
  exact ev_weak hX (ev_le_eq (ev_le_eq (ev_le_eq ev_le_nil))) (uX3_leastBeside_2 hR hC   fu _ _ _ _  hf)
theorem nX3_leastBeside {S : ev_S} {fu : Nat} {r : Int32 × ev_D} {l0 : Int32} {l1 : Int32} {D : ev_D}  (hf : fX3_leastBeside (sL S) (sE S) fu l0 l1 D = some r) : ev_M 0 0 0 yX3_leastBeside cX3_leastBeside 3 (some .int) [.int l0, .int l1] S D S r :=
  ev_met (ini := false) (plainFor_of_name (by decide)) (fun h => by cases h) rfl (Nat.le_of_ble_eq_true rfl) (fun F hR => uX3_leastBeside (S := ev_z S) hR ⟨Nat.le_refl 0, Nat.le_refl 0⟩  hf)
def wJ7_fill (vs : List Value) (S : ev_S) (D : ev_D) : Option ev_Rs := match vs with
  | [.ref x0, .int x1] => (bif sK S x0 == 1 then (match fJ7_fill (sL S) (sE S) 4000 x0 x1 D with
    | some (v, D2) => some (v, ev_z S, D2)
    | none => none) else none)
  | _ => none
theorem mwJ7_fill {vs : List Value} {S : ev_S} {D : ev_D} {v : Int32} {S2 : ev_S} {D2 : ev_D} (h : wJ7_fill vs S D = some (v, S2, D2)) : ev_M 0 (sC S2) (sA S2) yJ7_fill_53178 cJ7_fill_53178 4 none vs S D S2 (v, D2) := by
  unfold wJ7_fill at h
  split at h
  · simp only [cond] at h
    split at h
    · rename_i hc
      split at h
      · rename_i hf
        cases h
        exact nJ7_fill (by simpa using hc) hf
      · cases h
    · cases h
  · cases h
def wJ9_max (vs : List Value) (S : ev_S) (D : ev_D) : Option ev_Rs := match vs with
  | [.int x0, .int x1] => (match fJ9_max (sL S) (sE S) 4000 x0 x1 D with
    | some (v, D2) => some (v, ev_z S, D2)
    | none => none)
  | _ => none
theorem mwJ9_max {vs : List Value} {S : ev_S} {D : ev_D} {v : Int32} {S2 : ev_S} {D2 : ev_D} (h : wJ9_max vs S D = some (v, S2, D2)) : ev_M 0 (sC S2) (sA S2) yJ9_max_7cf53 cJ9_max_7cf53 2 (some .int) vs S D S2 (v, D2) := by
  unfold wJ9_max at h
  split at h
  · split at h
    · rename_i hf
      cases h
      exact nJ9_max hf
    · cases h
  · cases h
def wX3_leastBeside (vs : List Value) (S : ev_S) (D : ev_D) : Option ev_Rs := match vs with
  | [.int x0, .int x1] => (match fX3_leastBeside (sL S) (sE S) 4000 x0 x1 D with
    | some (v, D2) => some (v, ev_z S, D2)
    | none => none)
  | _ => none
theorem mwX3_leastBeside {vs : List Value} {S : ev_S} {D : ev_D} {v : Int32} {S2 : ev_S} {D2 : ev_D} (h : wX3_leastBeside vs S D = some (v, S2, D2)) : ev_M 0 (sC S2) (sA S2) yX3_leastBeside cX3_leastBeside 3 (some .int) vs S D S2 (v, D2) := by
  unfold wX3_leastBeside at h
  split at h
  · split at h
    · rename_i hf
      cases h
      exact nX3_leastBeside hf
    · cases h
  · cases h
theorem YX3_leastBeside : ev_YS yX3_leastBeside cX3_leastBeside 3 (some .int) 2 := ⟨⟨(mt_2 (List.mem_of_getElem? (i := 149) rfl)), (mt_1 (List.mem_of_getElem? (i := 14) rfl)), by decide +kernel, by decide⟩, (mt_2 (List.mem_of_getElem? (i := 148) rfl))⟩
theorem YcX9_init : ev_YI yX9_init cX9_init 1 0 := ⟨⟨(mt_1 (List.mem_of_getElem? (i := 41) rfl)), (mt_1 (List.mem_of_getElem? (i := 3) rfl)), by decide +kernel, by decide⟩, (mt_1 (List.mem_of_getElem? (i := 40) rfl)), rfl⟩
theorem YcX0_init : ev_YI yX0_init cX0_init 2 1 := ⟨⟨(mt_1 (List.mem_of_getElem? (i := 125) rfl)), (mt_1 (List.mem_of_getElem? (i := 5) rfl)), by decide +kernel, by decide⟩, (mt_1 (List.mem_of_getElem? (i := 124) rfl)), rfl⟩
theorem YcX1_init : ev_YI yX1_init cX1_init 1 0 := ⟨⟨(mt_1 (List.mem_of_getElem? (i := 152) rfl)), (mt_1 (List.mem_of_getElem? (i := 8) rfl)), by decide +kernel, by decide⟩, (mt_1 (List.mem_of_getElem? (i := 151) rfl)), rfl⟩
theorem YcX6_init : ev_YI yX6_init cX6_init 2 1 := ⟨⟨(mt_1 (List.mem_of_getElem? (i := 184) rfl)), (mt_1 (List.mem_of_getElem? (i := 9) rfl)), by decide +kernel, by decide⟩, (mt_1 (List.mem_of_getElem? (i := 183) rfl)), rfl⟩
theorem YcX7_init : ev_YI yX7_init cX7_init 1 0 := ⟨⟨(mt_1 (List.mem_of_getElem? (i := 146) rfl)), (mt_1 (List.mem_of_getElem? (i := 7) rfl)), by decide +kernel, by decide⟩, (mt_1 (List.mem_of_getElem? (i := 145) rfl)), rfl⟩
theorem YcX8_init : ev_YI yX8_init cX8_init 1 0 := ⟨⟨(mt_1 (List.mem_of_getElem? (i := 229) rfl)), (mt_1 (List.mem_of_getElem? (i := 10) rfl)), by decide +kernel, by decide⟩, (mt_1 (List.mem_of_getElem? (i := 228) rfl)), rfl⟩
theorem YcX10_init : ev_YI yX10_init cX10_init 1 0 := ⟨⟨(mt_1 (List.mem_of_getElem? (i := 35) rfl)), (mt_1 (List.mem_of_getElem? (i := 2) rfl)), by decide +kernel, by decide⟩, (mt_1 (List.mem_of_getElem? (i := 34) rfl)), rfl⟩
theorem YcX2_init : ev_YI yX2_init cX2_init 2 0 := ⟨⟨(mt_2 (List.mem_of_getElem? (i := 49) rfl)), (mt_1 (List.mem_of_getElem? (i := 11) rfl)), by decide +kernel, by decide⟩, (mt_2 (List.mem_of_getElem? (i := 48) rfl)), rfl⟩
theorem YcX4_init : ev_YI yX4_init cX4_init 1 0 := ⟨⟨(mt_2 (List.mem_of_getElem? (i := 72) rfl)), (mt_1 (List.mem_of_getElem? (i := 12) rfl)), by decide +kernel, by decide⟩, (mt_2 (List.mem_of_getElem? (i := 71) rfl)), rfl⟩
theorem YcX5_init : ev_YI yX5_init cX5_init 4 3 := ⟨⟨(mt_2 (List.mem_of_getElem? (i := 121) rfl)), (mt_1 (List.mem_of_getElem? (i := 13) rfl)), by decide +kernel, by decide⟩, (mt_2 (List.mem_of_getElem? (i := 120) rfl)), rfl⟩
theorem YcX3_init : ev_YI yX3_init cX3_init 5 3 := ⟨⟨(mt_2 (List.mem_of_getElem? (i := 145) rfl)), (mt_1 (List.mem_of_getElem? (i := 14) rfl)), by decide +kernel, by decide⟩, (mt_2 (List.mem_of_getElem? (i := 144) rfl)), rfl⟩
theorem YcX11_init : ev_YI yX11_init cX11_init 1 0 := ⟨⟨(mt_1 (List.mem_of_getElem? (i := 27) rfl)), (mt_1 (List.mem_of_getElem? (i := 1) rfl)), by decide +kernel, by decide⟩, (mt_1 (List.mem_of_getElem? (i := 26) rfl)), rfl⟩
theorem YcX12_init : ev_YI yX12_init cX12_init 1 0 := ⟨⟨(mt_6 (List.mem_of_getElem? (i := 33) rfl)), (mt_1 (List.mem_of_getElem? (i := 15) rfl)), by decide +kernel, by decide⟩, (mt_6 (List.mem_of_getElem? (i := 32) rfl)), rfl⟩
def tbX9_init_0 : List (Nat × ev_Jn) := [(0, (0, (.aload_n 0, 1, 0, 0, 0), 0, 0, 0)), (1, (12, (.invokespecial 3, 3, 0, 0, 0), 0, 0, 0)), (4, (0, (.aload_n 0, 1, 0, 0, 0), 0, 0, 0)), (5, (0, (.iconst 0, 1, 0, 0, 0), 0, 0, 0)), (6, (0, (.putfield 9, 3, 9, 0, 0), 0, 0, 0)), (9, (0, (.aload_n 0, 1, 0, 0, 0), 0, 0, 0)), (10, (0, (.iconst 0, 1, 0, 0, 0), 0, 0, 0)), (11, (0, (.putfield 15, 3, 9, 1, 0), 0, 0, 0)), (14, (0, (.aload_n 0, 1, 0, 0, 0), 0, 0, 0)), (15, (0, (.iconst 0, 1, 0, 0, 0), 0, 0, 0)), (16, (0, (.putfield 18, 3, 9, 2, 0), 0, 0, 0)), (19, (0, (.aload_n 0, 1, 0, 0, 0), 0, 0, 0)), (20, (0, (.iconst 0, 1, 0, 0, 0), 0, 0, 0)), (21, (0, (.putfield 21, 3, 9, 3, 0), 0, 0, 0)), (24, (0, (.aload_n 0, 1, 0, 0, 0), 0, 0, 0)), (25, (0, (.iconst 0, 1, 0, 0, 0), 0, 0, 0)), (26, (0, (.putfield 24, 3, 9, 4, 0), 0, 0, 0)), (29, (0, (.aload_n 0, 1, 0, 0, 0), 0, 0, 0)), (30, (0, (.iconst 0, 1, 0, 0, 0), 0, 0, 0)), (31, (0, (.putfield 27, 3, 9, 5, 0), 0, 0, 0)), (34, (0, (.aload_n 0, 1, 0, 0, 0), 0, 0, 0)), (35, (0, (.iconst 0, 1, 0, 0, 0), 0, 0, 0)), (36, (0, (.putfield 30, 3, 9, 6, 0), 0, 0, 0)), (39, (0, (.aload_n 0, 1, 0, 0, 0), 0, 0, 0)), (40, (0, (.bipush 8, 2, 0, 0, 8), 0, 0, 0)), (42, (7, (.newarray .int, 2, 0, 0, 0), 0, 0, 0)), (44, (9, (.putfield 33, 3, 0, 0, 0), 9, 7, 0)), (47, (0, (.aload_n 0, 1, 0, 0, 0), 0, 0, 0)), (48, (0, (.bipush 8, 2, 0, 0, 8), 0, 0, 0)), (50, (7, (.newarray .int, 2, 0, 0, 0), 0, 0, 0))]
def tbX9_init_1 : List (Nat × ev_Jn) := [(52, (9, (.putfield 37, 3, 0, 0, 0), 9, 8, 0)), (55, (0, (.aload_n 0, 1, 0, 0, 0), 0, 0, 0)), (56, (0, (.bipush 10, 2, 0, 0, 10), 0, 0, 0)), (58, (7, (.newarray .int, 2, 0, 0, 0), 0, 0, 0)), (60, (9, (.putfield 40, 3, 0, 0, 0), 9, 9, 0)), (63, (0, (.aload_n 0, 1, 0, 0, 0), 0, 0, 0)), (64, (0, (.bipush 10, 2, 0, 0, 10), 0, 0, 0)), (66, (7, (.newarray .int, 2, 0, 0, 0), 0, 0, 0)), (68, (9, (.putfield 43, 3, 0, 0, 0), 9, 10, 0)), (71, (0, (.aload_n 0, 1, 0, 0, 0), 0, 0, 0)), (72, (0, (.bipush 10, 2, 0, 0, 10), 0, 0, 0)), (74, (7, (.newarray .int, 2, 0, 0, 0), 0, 0, 0)), (76, (9, (.putfield 46, 3, 0, 0, 0), 9, 11, 0)), (79, (0, (.aload_n 0, 1, 0, 0, 0), 0, 0, 0)), (80, (0, (.bipush 10, 2, 0, 0, 10), 0, 0, 0)), (82, (7, (.newarray .int, 2, 0, 0, 0), 0, 0, 0)), (84, (9, (.putfield 49, 3, 0, 0, 0), 9, 12, 0)), (87, (0, (.aload_n 0, 1, 0, 0, 0), 0, 0, 0)), (88, (0, (.bipush 10, 2, 0, 0, 10), 0, 0, 0)), (90, (7, (.newarray .int, 2, 0, 0, 0), 0, 0, 0)), (92, (9, (.putfield 52, 3, 0, 0, 0), 9, 13, 0)), (95, (0, (.aload_n 0, 1, 0, 0, 0), 0, 0, 0)), (96, (0, (.getfield 33, 3, 9, 7, 0), 0, 0, 0)), (99, (0, (.iconst 1, 1, 0, 0, 1), 0, 0, 0)), (100, (10, (.invokestatic 55, 3, 0, 0, 0), 0, 2, 0)), (103, (4, (.return_, 1, 0, 0, 0), 0, 0, 0))]
def tbX9_init : List (Nat × ev_Jn) := tbX9_init_0 ++ (tbX9_init_1)
def cfX9_init : ev_Cf := fun k vs S D => match k with
  | 0 => wJ7_fill vs S D
  | _ => none
def gX9_init (vs : List Value) (S : ev_S) (D : ev_D) : Option ev_Rs := bif vs.all ev_plain && decide (vs.length ≤ 1) then ev_run tbX9_init cfX9_init 4000 0 (vs.map some ++ List.replicate (1 - vs.length) none) [] (ev_z S) D else none
def tnX9_init : List (Nat × ev_Jn) := [(1, (12, (.invokespecial 3, 3, 0, 0, 0), 0, 0, 0)), (42, (7, (.newarray .int, 2, 0, 0, 0), 0, 0, 0)), (44, (9, (.putfield 33, 3, 0, 0, 0), 9, 7, 0)), (50, (7, (.newarray .int, 2, 0, 0, 0), 0, 0, 0)), (52, (9, (.putfield 37, 3, 0, 0, 0), 9, 8, 0)), (58, (7, (.newarray .int, 2, 0, 0, 0), 0, 0, 0)), (60, (9, (.putfield 40, 3, 0, 0, 0), 9, 9, 0)), (66, (7, (.newarray .int, 2, 0, 0, 0), 0, 0, 0)), (68, (9, (.putfield 43, 3, 0, 0, 0), 9, 10, 0)), (74, (7, (.newarray .int, 2, 0, 0, 0), 0, 0, 0)), (76, (9, (.putfield 46, 3, 0, 0, 0), 9, 11, 0)), (82, (7, (.newarray .int, 2, 0, 0, 0), 0, 0, 0)), (84, (9, (.putfield 49, 3, 0, 0, 0), 9, 12, 0)), (90, (7, (.newarray .int, 2, 0, 0, 0), 0, 0, 0)), (92, (9, (.putfield 52, 3, 0, 0, 0), 9, 13, 0)), (100, (10, (.invokestatic 55, 3, 0, 0, 0), 0, 2, 0)), (103, (4, (.return_, 1, 0, 0, 0), 0, 0, 0))]
set_option maxRecDepth 100000 in
theorem jX9_init_1 : ev_jok cfX9_init RX9 cX9_init 1 1 true 1 (12, (.invokespecial 3, 3, 0, 0, 0), 0, 0, 0) := ⟨3, (mt_1 (List.mem_of_getElem? (i := 42) rfl)), ac_oi, ac_oc, by decide, by decide +kernel⟩
set_option maxRecDepth 100000 in
theorem jX9_init_42 : ev_jok cfX9_init RX9 cX9_init 1 1 true 42 (7, (.newarray .int, 2, 0, 0, 0), 0, 0, 0) := ⟨ac_int, by decide +kernel⟩
set_option maxRecDepth 100000 in
theorem jX9_init_44 : ev_jok cfX9_init RX9 cX9_init 1 1 true 44 (9, (.putfield 33, 3, 0, 0, 0), 9, 7, 0) := ⟨33, (RX9, TX9, 14), rfl, by decide, (mt_1 (List.mem_of_getElem? (i := 66) rfl)), Or.inr ⟨rfl, rfl, rfl⟩, by decide +kernel⟩
set_option maxRecDepth 100000 in
theorem jX9_init_50 : ev_jok cfX9_init RX9 cX9_init 1 1 true 50 (7, (.newarray .int, 2, 0, 0, 0), 0, 0, 0) := ⟨ac_int, by decide +kernel⟩
set_option maxRecDepth 100000 in
theorem jX9_init_52 : ev_jok cfX9_init RX9 cX9_init 1 1 true 52 (9, (.putfield 37, 3, 0, 0, 0), 9, 8, 0) := ⟨37, (RX9, TX9, 14), rfl, by decide, (mt_1 (List.mem_of_getElem? (i := 70) rfl)), Or.inr ⟨rfl, rfl, rfl⟩, by decide +kernel⟩
set_option maxRecDepth 100000 in
theorem jX9_init_58 : ev_jok cfX9_init RX9 cX9_init 1 1 true 58 (7, (.newarray .int, 2, 0, 0, 0), 0, 0, 0) := ⟨ac_int, by decide +kernel⟩
set_option maxRecDepth 100000 in
theorem jX9_init_60 : ev_jok cfX9_init RX9 cX9_init 1 1 true 60 (9, (.putfield 40, 3, 0, 0, 0), 9, 9, 0) := ⟨40, (RX9, TX9, 14), rfl, by decide, (mt_1 (List.mem_of_getElem? (i := 73) rfl)), Or.inr ⟨rfl, rfl, rfl⟩, by decide +kernel⟩
set_option maxRecDepth 100000 in
theorem jX9_init_66 : ev_jok cfX9_init RX9 cX9_init 1 1 true 66 (7, (.newarray .int, 2, 0, 0, 0), 0, 0, 0) := ⟨ac_int, by decide +kernel⟩
set_option maxRecDepth 100000 in
theorem jX9_init_68 : ev_jok cfX9_init RX9 cX9_init 1 1 true 68 (9, (.putfield 43, 3, 0, 0, 0), 9, 10, 0) := ⟨43, (RX9, TX9, 14), rfl, by decide, (mt_1 (List.mem_of_getElem? (i := 76) rfl)), Or.inr ⟨rfl, rfl, rfl⟩, by decide +kernel⟩
set_option maxRecDepth 100000 in
theorem jX9_init_74 : ev_jok cfX9_init RX9 cX9_init 1 1 true 74 (7, (.newarray .int, 2, 0, 0, 0), 0, 0, 0) := ⟨ac_int, by decide +kernel⟩
set_option maxRecDepth 100000 in
theorem jX9_init_76 : ev_jok cfX9_init RX9 cX9_init 1 1 true 76 (9, (.putfield 46, 3, 0, 0, 0), 9, 11, 0) := ⟨46, (RX9, TX9, 14), rfl, by decide, (mt_1 (List.mem_of_getElem? (i := 79) rfl)), Or.inr ⟨rfl, rfl, rfl⟩, by decide +kernel⟩
set_option maxRecDepth 100000 in
theorem jX9_init_82 : ev_jok cfX9_init RX9 cX9_init 1 1 true 82 (7, (.newarray .int, 2, 0, 0, 0), 0, 0, 0) := ⟨ac_int, by decide +kernel⟩
set_option maxRecDepth 100000 in
theorem jX9_init_84 : ev_jok cfX9_init RX9 cX9_init 1 1 true 84 (9, (.putfield 49, 3, 0, 0, 0), 9, 12, 0) := ⟨49, (RX9, TX9, 14), rfl, by decide, (mt_1 (List.mem_of_getElem? (i := 83) rfl)), Or.inr ⟨rfl, rfl, rfl⟩, by decide +kernel⟩
set_option maxRecDepth 100000 in
theorem jX9_init_90 : ev_jok cfX9_init RX9 cX9_init 1 1 true 90 (7, (.newarray .int, 2, 0, 0, 0), 0, 0, 0) := ⟨ac_int, by decide +kernel⟩
set_option maxRecDepth 100000 in
theorem jX9_init_92 : ev_jok cfX9_init RX9 cX9_init 1 1 true 92 (9, (.putfield 52, 3, 0, 0, 0), 9, 13, 0) := ⟨52, (RX9, TX9, 14), rfl, by decide, (mt_1 (List.mem_of_getElem? (i := 87) rfl)), Or.inr ⟨rfl, rfl, rfl⟩, by decide +kernel⟩
set_option maxRecDepth 100000 in
theorem jX9_init_100 : ev_jok cfX9_init RX9 cX9_init 1 1 true 100 (10, (.invokestatic 55, 3, 0, 0, 0), 0, 2, 0) := ⟨55, yJ7_fill_53178, cJ7_fill_53178, 4, none, 0, YJ7_fill, (Or.inl (mt_1 (List.mem_of_getElem? (i := 43) rfl))), by decide, fun _ _ => rfl, by decide +kernel, fun vs S D v S2 D2 h => mwJ7_fill h⟩
set_option maxRecDepth 100000 in
theorem jX9_init_103 : ev_jok cfX9_init RX9 cX9_init 1 1 true 103 (4, (.return_, 1, 0, 0, 0), 0, 0, 0) := (show decode cX9_init 103 = .ok (.return_, 1) by decide +kernel)
set_option maxRecDepth 100000 in
theorem jnX9_init : ∀ e ∈ tnX9_init, ev_jok cfX9_init RX9 cX9_init 1 1 true e.1 e.2 := List.forall_mem_cons.mpr ⟨jX9_init_1, List.forall_mem_cons.mpr ⟨jX9_init_42, List.forall_mem_cons.mpr ⟨jX9_init_44, List.forall_mem_cons.mpr ⟨jX9_init_50, List.forall_mem_cons.mpr ⟨jX9_init_52, List.forall_mem_cons.mpr ⟨jX9_init_58, List.forall_mem_cons.mpr ⟨jX9_init_60, List.forall_mem_cons.mpr ⟨jX9_init_66, List.forall_mem_cons.mpr ⟨jX9_init_68, List.forall_mem_cons.mpr ⟨jX9_init_74, List.forall_mem_cons.mpr ⟨jX9_init_76, List.forall_mem_cons.mpr ⟨jX9_init_82, List.forall_mem_cons.mpr ⟨jX9_init_84, List.forall_mem_cons.mpr ⟨jX9_init_90, List.forall_mem_cons.mpr ⟨jX9_init_92, List.forall_mem_cons.mpr ⟨jX9_init_100, List.forall_mem_cons.mpr ⟨jX9_init_103, fun _ h => absurd h List.not_mem_nil⟩⟩⟩⟩⟩⟩⟩⟩⟩⟩⟩⟩⟩⟩⟩⟩⟩
set_option maxRecDepth 100000 in
theorem pkX9_init_0 : tbX9_init_0.all (ev_pk cX9_init lk_RX9 1) = true := by decide +kernel
set_option maxRecDepth 100000 in
theorem pkX9_init_1 : tbX9_init_1.all (ev_pk cX9_init lk_RX9 1) = true := by decide +kernel
set_option maxRecDepth 100000 in
theorem jtX9_init : ∀ e ∈ tbX9_init, ev_jok cfX9_init RX9 cX9_init 1 1 true e.1 e.2 := ev_tball (lk := lk_RX9) lkok_RX9 (ev_all2 pkX9_init_0 pkX9_init_1) rfl jnX9_init
set_option maxRecDepth 100000 in
theorem mgX9_init {vs : List Value} {S : ev_S} {D : ev_D} {v : Int32} {S2 : ev_S} {D2 : ev_D} (h : gX9_init vs S D = some (v, S2, D2)) : ev_M 1 (sC S2) (sA S2) yX9_init cX9_init 1 none vs S D S2 (v, D2) := by
  unfold gX9_init at h
  obtain ⟨h1, h2, h3⟩ := ev_bif h
  exact ev_met (ini := true) (plainFor_of_name (by decide)) (fun _ => rfl) h1 (of_decide_eq_true h2) (fun F hR => ev_run_ok hR (Or.inl rfl) jtX9_init (ev_no5 (by decide +kernel)) 4000 0 _ [] (ev_z S) D h3)
def tbX0_init_0 : List (Nat × ev_Jn) := [(0, (0, (.aload_n 0, 1, 0, 0, 0), 0, 0, 0)), (1, (12, (.invokespecial 3, 3, 0, 0, 0), 0, 0, 0)), (4, (0, (.aload_n 0, 1, 0, 0, 0), 0, 0, 0)), (5, (0, (.iconst 0, 1, 0, 0, 0), 0, 0, 0)), (6, (0, (.putfield 9, 3, 0, 0, 0), 0, 0, 0)), (9, (0, (.aload_n 0, 1, 0, 0, 0), 0, 0, 0)), (10, (0, (.iconst 0, 1, 0, 0, 0), 0, 0, 0)), (11, (0, (.iload_n 1, 1, 0, 0, 0), 0, 0, 0)), (12, (10, (.invokestatic 15, 3, 0, 0, 0), 0, 2, 1)), (15, (9, (.putfield 21, 3, 0, 0, 0), 0, 1, 0)), (18, (0, (.aload_n 0, 1, 0, 0, 0), 0, 0, 0)), (19, (0, (.aload_n 0, 1, 0, 0, 0), 0, 0, 0)), (20, (0, (.getfield 21, 3, 0, 1, 0), 0, 0, 0)), (23, (0, (.iconst 4, 1, 0, 0, 4), 0, 0, 0)), (24, (0, (.imul, 1, 0, 0, 0), 0, 0, 0)), (25, (7, (.newarray .int, 2, 0, 0, 0), 0, 0, 0)), (27, (9, (.putfield 24, 3, 0, 0, 0), 0, 2, 0)), (30, (4, (.return_, 1, 0, 0, 0), 0, 0, 0))]
def tbX0_init : List (Nat × ev_Jn) := tbX0_init_0
def cfX0_init : ev_Cf := fun k vs S D => match k with
  | 0 => wJ9_max vs S D
  | _ => none
def gX0_init (vs : List Value) (S : ev_S) (D : ev_D) : Option ev_Rs := bif vs.all ev_plain && decide (vs.length ≤ 2) then ev_run tbX0_init cfX0_init 4000 0 (vs.map some ++ List.replicate (2 - vs.length) none) [] (ev_z S) D else none
def tnX0_init : List (Nat × ev_Jn) := [(1, (12, (.invokespecial 3, 3, 0, 0, 0), 0, 0, 0)), (12, (10, (.invokestatic 15, 3, 0, 0, 0), 0, 2, 1)), (15, (9, (.putfield 21, 3, 0, 0, 0), 0, 1, 0)), (25, (7, (.newarray .int, 2, 0, 0, 0), 0, 0, 0)), (27, (9, (.putfield 24, 3, 0, 0, 0), 0, 2, 0)), (30, (4, (.return_, 1, 0, 0, 0), 0, 0, 0))]
set_option maxRecDepth 100000 in
theorem jX0_init_1 : ev_jok cfX0_init RX0 cX0_init 2 1 true 1 (12, (.invokespecial 3, 3, 0, 0, 0), 0, 0, 0) := ⟨3, (mt_1 (List.mem_of_getElem? (i := 126) rfl)), ac_oi, ac_oc, by decide, by decide +kernel⟩
set_option maxRecDepth 100000 in
theorem jX0_init_12 : ev_jok cfX0_init RX0 cX0_init 2 1 true 12 (10, (.invokestatic 15, 3, 0, 0, 0), 0, 2, 1) := ⟨15, yJ9_max_7cf53, cJ9_max_7cf53, 2, (some .int), 0, YJ9_max, (Or.inl (mt_1 (List.mem_of_getElem? (i := 127) rfl))), by decide, fun _ _ => rfl, by decide +kernel, fun vs S D v S2 D2 h => mwJ9_max h⟩
set_option maxRecDepth 100000 in
theorem jX0_init_15 : ev_jok cfX0_init RX0 cX0_init 2 1 true 15 (9, (.putfield 21, 3, 0, 0, 0), 0, 1, 0) := ⟨21, (RX0, TX0, 3), rfl, by decide, (mt_1 (List.mem_of_getElem? (i := 133) rfl)), Or.inr ⟨rfl, rfl, rfl⟩, by decide +kernel⟩
set_option maxRecDepth 100000 in
theorem jX0_init_25 : ev_jok cfX0_init RX0 cX0_init 2 1 true 25 (7, (.newarray .int, 2, 0, 0, 0), 0, 0, 0) := ⟨ac_int, by decide +kernel⟩
set_option maxRecDepth 100000 in
theorem jX0_init_27 : ev_jok cfX0_init RX0 cX0_init 2 1 true 27 (9, (.putfield 24, 3, 0, 0, 0), 0, 2, 0) := ⟨24, (RX0, TX0, 3), rfl, by decide, (mt_1 (List.mem_of_getElem? (i := 134) rfl)), Or.inr ⟨rfl, rfl, rfl⟩, by decide +kernel⟩
set_option maxRecDepth 100000 in
theorem jX0_init_30 : ev_jok cfX0_init RX0 cX0_init 2 1 true 30 (4, (.return_, 1, 0, 0, 0), 0, 0, 0) := (show decode cX0_init 30 = .ok (.return_, 1) by decide +kernel)
set_option maxRecDepth 100000 in
theorem jnX0_init : ∀ e ∈ tnX0_init, ev_jok cfX0_init RX0 cX0_init 2 1 true e.1 e.2 := List.forall_mem_cons.mpr ⟨jX0_init_1, List.forall_mem_cons.mpr ⟨jX0_init_12, List.forall_mem_cons.mpr ⟨jX0_init_15, List.forall_mem_cons.mpr ⟨jX0_init_25, List.forall_mem_cons.mpr ⟨jX0_init_27, List.forall_mem_cons.mpr ⟨jX0_init_30, fun _ h => absurd h List.not_mem_nil⟩⟩⟩⟩⟩⟩
set_option maxRecDepth 100000 in
theorem pkX0_init_0 : tbX0_init_0.all (ev_pk cX0_init lk_RX0 2) = true := by decide +kernel
set_option maxRecDepth 100000 in
theorem jtX0_init : ∀ e ∈ tbX0_init, ev_jok cfX0_init RX0 cX0_init 2 1 true e.1 e.2 := ev_tball (lk := lk_RX0) lkok_RX0 pkX0_init_0 rfl jnX0_init
set_option maxRecDepth 100000 in
theorem mgX0_init {vs : List Value} {S : ev_S} {D : ev_D} {v : Int32} {S2 : ev_S} {D2 : ev_D} (h : gX0_init vs S D = some (v, S2, D2)) : ev_M 1 (sC S2) (sA S2) yX0_init cX0_init 2 none vs S D S2 (v, D2) := by
  unfold gX0_init at h
  obtain ⟨h1, h2, h3⟩ := ev_bif h
  exact ev_met (ini := true) (plainFor_of_name (by decide)) (fun _ => rfl) h1 (of_decide_eq_true h2) (fun F hR => ev_run_ok hR (Or.inl rfl) jtX0_init (ev_no5 (by decide +kernel)) 4000 0 _ [] (ev_z S) D h3)
def tbX1_init_0 : List (Nat × ev_Jn) := [(0, (0, (.aload_n 0, 1, 0, 0, 0), 0, 0, 0)), (1, (12, (.invokespecial 5, 3, 0, 0, 0), 0, 0, 0)), (4, (0, (.aload_n 0, 1, 0, 0, 0), 0, 0, 0)), (5, (0, (.iconst 0, 1, 0, 0, 0), 0, 0, 0)), (6, (0, (.putfield 11, 3, 1, 0, 0), 0, 0, 0)), (9, (0, (.aload_n 0, 1, 0, 0, 0), 0, 0, 0)), (10, (0, (.iconst 0, 1, 0, 0, 0), 0, 0, 0)), (11, (0, (.putfield 15, 3, 1, 1, 0), 0, 0, 0)), (14, (0, (.aload_n 0, 1, 0, 0, 0), 0, 0, 0)), (15, (0, (.bipush 16, 2, 0, 0, 16), 0, 0, 0)), (17, (7, (.newarray .int, 2, 0, 0, 0), 0, 0, 0)), (19, (9, (.putfield 18, 3, 0, 0, 0), 1, 2, 0)), (22, (0, (.aload_n 0, 1, 0, 0, 0), 0, 0, 0)), (23, (0, (.bipush 16, 2, 0, 0, 16), 0, 0, 0)), (25, (7, (.newarray .int, 2, 0, 0, 0), 0, 0, 0)), (27, (9, (.putfield 22, 3, 0, 0, 0), 1, 3, 0)), (30, (0, (.aload_n 0, 1, 0, 0, 0), 0, 0, 0)), (31, (0, (.bipush 16, 2, 0, 0, 16), 0, 0, 0)), (33, (7, (.newarray .int, 2, 0, 0, 0), 0, 0, 0)), (35, (9, (.putfield 25, 3, 0, 0, 0), 1, 4, 0)), (38, (0, (.aload_n 0, 1, 0, 0, 0), 0, 0, 0)), (39, (0, (.bipush 16, 2, 0, 0, 16), 0, 0, 0)), (41, (7, (.newarray .int, 2, 0, 0, 0), 0, 0, 0)), (43, (9, (.putfield 28, 3, 0, 0, 0), 1, 5, 0)), (46, (0, (.aload_n 0, 1, 0, 0, 0), 0, 0, 0)), (47, (0, (.sipush 400, 3, 0, 0, 400), 0, 0, 0)), (50, (7, (.newarray .int, 2, 0, 0, 0), 0, 0, 0)), (52, (9, (.putfield 31, 3, 0, 0, 0), 1, 6, 0)), (55, (0, (.aload_n 0, 1, 0, 0, 0), 0, 0, 0)), (56, (0, (.bipush 40, 2, 0, 0, 40), 0, 0, 0))]
def tbX1_init_1 : List (Nat × ev_Jn) := [(58, (7, (.newarray .int, 2, 0, 0, 0), 0, 0, 0)), (60, (9, (.putfield 34, 3, 0, 0, 0), 1, 7, 0)), (63, (4, (.return_, 1, 0, 0, 0), 0, 0, 0))]
def tbX1_init : List (Nat × ev_Jn) := tbX1_init_0 ++ (tbX1_init_1)
def cfX1_init : ev_Cf := fun k vs S D => match k with
  | _ => none
def gX1_init (vs : List Value) (S : ev_S) (D : ev_D) : Option ev_Rs := bif vs.all ev_plain && decide (vs.length ≤ 1) then ev_run tbX1_init cfX1_init 4000 0 (vs.map some ++ List.replicate (1 - vs.length) none) [] (ev_z S) D else none
def tnX1_init : List (Nat × ev_Jn) := [(1, (12, (.invokespecial 5, 3, 0, 0, 0), 0, 0, 0)), (17, (7, (.newarray .int, 2, 0, 0, 0), 0, 0, 0)), (19, (9, (.putfield 18, 3, 0, 0, 0), 1, 2, 0)), (25, (7, (.newarray .int, 2, 0, 0, 0), 0, 0, 0)), (27, (9, (.putfield 22, 3, 0, 0, 0), 1, 3, 0)), (33, (7, (.newarray .int, 2, 0, 0, 0), 0, 0, 0)), (35, (9, (.putfield 25, 3, 0, 0, 0), 1, 4, 0)), (41, (7, (.newarray .int, 2, 0, 0, 0), 0, 0, 0)), (43, (9, (.putfield 28, 3, 0, 0, 0), 1, 5, 0)), (50, (7, (.newarray .int, 2, 0, 0, 0), 0, 0, 0)), (52, (9, (.putfield 31, 3, 0, 0, 0), 1, 6, 0)), (58, (7, (.newarray .int, 2, 0, 0, 0), 0, 0, 0)), (60, (9, (.putfield 34, 3, 0, 0, 0), 1, 7, 0)), (63, (4, (.return_, 1, 0, 0, 0), 0, 0, 0))]
set_option maxRecDepth 100000 in
theorem jX1_init_1 : ev_jok cfX1_init RX1 cX1_init 1 1 true 1 (12, (.invokespecial 5, 3, 0, 0, 0), 0, 0, 0) := ⟨5, (mt_1 (List.mem_of_getElem? (i := 153) rfl)), ac_oi, ac_oc, by decide, by decide +kernel⟩
set_option maxRecDepth 100000 in
theorem jX1_init_17 : ev_jok cfX1_init RX1 cX1_init 1 1 true 17 (7, (.newarray .int, 2, 0, 0, 0), 0, 0, 0) := ⟨ac_int, by decide +kernel⟩
set_option maxRecDepth 100000 in
theorem jX1_init_19 : ev_jok cfX1_init RX1 cX1_init 1 1 true 19 (9, (.putfield 18, 3, 0, 0, 0), 1, 2, 0) := ⟨18, (RX1, TX1, 8), rfl, by decide, (mt_1 (List.mem_of_getElem? (i := 157) rfl)), Or.inr ⟨rfl, rfl, rfl⟩, by decide +kernel⟩
set_option maxRecDepth 100000 in
theorem jX1_init_25 : ev_jok cfX1_init RX1 cX1_init 1 1 true 25 (7, (.newarray .int, 2, 0, 0, 0), 0, 0, 0) := ⟨ac_int, by decide +kernel⟩
set_option maxRecDepth 100000 in
theorem jX1_init_27 : ev_jok cfX1_init RX1 cX1_init 1 1 true 27 (9, (.putfield 22, 3, 0, 0, 0), 1, 3, 0) := ⟨22, (RX1, TX1, 8), rfl, by decide, (mt_1 (List.mem_of_getElem? (i := 158) rfl)), Or.inr ⟨rfl, rfl, rfl⟩, by decide +kernel⟩
set_option maxRecDepth 100000 in
theorem jX1_init_33 : ev_jok cfX1_init RX1 cX1_init 1 1 true 33 (7, (.newarray .int, 2, 0, 0, 0), 0, 0, 0) := ⟨ac_int, by decide +kernel⟩
set_option maxRecDepth 100000 in
theorem jX1_init_35 : ev_jok cfX1_init RX1 cX1_init 1 1 true 35 (9, (.putfield 25, 3, 0, 0, 0), 1, 4, 0) := ⟨25, (RX1, TX1, 8), rfl, by decide, (mt_1 (List.mem_of_getElem? (i := 159) rfl)), Or.inr ⟨rfl, rfl, rfl⟩, by decide +kernel⟩
set_option maxRecDepth 100000 in
theorem jX1_init_41 : ev_jok cfX1_init RX1 cX1_init 1 1 true 41 (7, (.newarray .int, 2, 0, 0, 0), 0, 0, 0) := ⟨ac_int, by decide +kernel⟩
set_option maxRecDepth 100000 in
theorem jX1_init_43 : ev_jok cfX1_init RX1 cX1_init 1 1 true 43 (9, (.putfield 28, 3, 0, 0, 0), 1, 5, 0) := ⟨28, (RX1, TX1, 8), rfl, by decide, (mt_1 (List.mem_of_getElem? (i := 160) rfl)), Or.inr ⟨rfl, rfl, rfl⟩, by decide +kernel⟩
set_option maxRecDepth 100000 in
theorem jX1_init_50 : ev_jok cfX1_init RX1 cX1_init 1 1 true 50 (7, (.newarray .int, 2, 0, 0, 0), 0, 0, 0) := ⟨ac_int, by decide +kernel⟩
set_option maxRecDepth 100000 in
theorem jX1_init_52 : ev_jok cfX1_init RX1 cX1_init 1 1 true 52 (9, (.putfield 31, 3, 0, 0, 0), 1, 6, 0) := ⟨31, (RX1, TX1, 8), rfl, by decide, (mt_1 (List.mem_of_getElem? (i := 161) rfl)), Or.inr ⟨rfl, rfl, rfl⟩, by decide +kernel⟩
set_option maxRecDepth 100000 in
theorem jX1_init_58 : ev_jok cfX1_init RX1 cX1_init 1 1 true 58 (7, (.newarray .int, 2, 0, 0, 0), 0, 0, 0) := ⟨ac_int, by decide +kernel⟩
set_option maxRecDepth 100000 in
theorem jX1_init_60 : ev_jok cfX1_init RX1 cX1_init 1 1 true 60 (9, (.putfield 34, 3, 0, 0, 0), 1, 7, 0) := ⟨34, (RX1, TX1, 8), rfl, by decide, (mt_1 (List.mem_of_getElem? (i := 162) rfl)), Or.inr ⟨rfl, rfl, rfl⟩, by decide +kernel⟩
set_option maxRecDepth 100000 in
theorem jX1_init_63 : ev_jok cfX1_init RX1 cX1_init 1 1 true 63 (4, (.return_, 1, 0, 0, 0), 0, 0, 0) := (show decode cX1_init 63 = .ok (.return_, 1) by decide +kernel)
set_option maxRecDepth 100000 in
theorem jnX1_init : ∀ e ∈ tnX1_init, ev_jok cfX1_init RX1 cX1_init 1 1 true e.1 e.2 := List.forall_mem_cons.mpr ⟨jX1_init_1, List.forall_mem_cons.mpr ⟨jX1_init_17, List.forall_mem_cons.mpr ⟨jX1_init_19, List.forall_mem_cons.mpr ⟨jX1_init_25, List.forall_mem_cons.mpr ⟨jX1_init_27, List.forall_mem_cons.mpr ⟨jX1_init_33, List.forall_mem_cons.mpr ⟨jX1_init_35, List.forall_mem_cons.mpr ⟨jX1_init_41, List.forall_mem_cons.mpr ⟨jX1_init_43, List.forall_mem_cons.mpr ⟨jX1_init_50, List.forall_mem_cons.mpr ⟨jX1_init_52, List.forall_mem_cons.mpr ⟨jX1_init_58, List.forall_mem_cons.mpr ⟨jX1_init_60, List.forall_mem_cons.mpr ⟨jX1_init_63, fun _ h => absurd h List.not_mem_nil⟩⟩⟩⟩⟩⟩⟩⟩⟩⟩⟩⟩⟩⟩
set_option maxRecDepth 100000 in
theorem pkX1_init_0 : tbX1_init_0.all (ev_pk cX1_init lk_RX1 1) = true := by decide +kernel
set_option maxRecDepth 100000 in
theorem pkX1_init_1 : tbX1_init_1.all (ev_pk cX1_init lk_RX1 1) = true := by decide +kernel
set_option maxRecDepth 100000 in
theorem jtX1_init : ∀ e ∈ tbX1_init, ev_jok cfX1_init RX1 cX1_init 1 1 true e.1 e.2 := ev_tball (lk := lk_RX1) lkok_RX1 (ev_all2 pkX1_init_0 pkX1_init_1) rfl jnX1_init
set_option maxRecDepth 100000 in
theorem mgX1_init {vs : List Value} {S : ev_S} {D : ev_D} {v : Int32} {S2 : ev_S} {D2 : ev_D} (h : gX1_init vs S D = some (v, S2, D2)) : ev_M 1 (sC S2) (sA S2) yX1_init cX1_init 1 none vs S D S2 (v, D2) := by
  unfold gX1_init at h
  obtain ⟨h1, h2, h3⟩ := ev_bif h
  exact ev_met (ini := true) (plainFor_of_name (by decide)) (fun _ => rfl) h1 (of_decide_eq_true h2) (fun F hR => ev_run_ok hR (Or.inl rfl) jtX1_init (ev_no5 (by decide +kernel)) 4000 0 _ [] (ev_z S) D h3)
def tbX6_init_0 : List (Nat × ev_Jn) := [(0, (0, (.aload_n 0, 1, 0, 0, 0), 0, 0, 0)), (1, (12, (.invokespecial 3, 3, 0, 0, 0), 0, 0, 0)), (4, (0, (.aload_n 0, 1, 0, 0, 0), 0, 0, 0)), (5, (0, (.iconst 0, 1, 0, 0, 0), 0, 0, 0)), (6, (0, (.putfield 9, 3, 6, 0, 0), 0, 0, 0)), (9, (0, (.aload_n 0, 1, 0, 0, 0), 0, 0, 0)), (10, (0, (.iconst 0, 1, 0, 0, 0), 0, 0, 0)), (11, (0, (.iload_n 1, 1, 0, 0, 0), 0, 0, 0)), (12, (10, (.invokestatic 15, 3, 0, 0, 0), 0, 2, 1)), (15, (9, (.putfield 21, 3, 0, 0, 0), 6, 1, 0)), (18, (0, (.aload_n 0, 1, 0, 0, 0), 0, 0, 0)), (19, (0, (.aload_n 0, 1, 0, 0, 0), 0, 0, 0)), (20, (0, (.getfield 21, 3, 6, 1, 0), 0, 0, 0)), (23, (0, (.iconst 3, 1, 0, 0, 3), 0, 0, 0)), (24, (0, (.imul, 1, 0, 0, 0), 0, 0, 0)), (25, (7, (.newarray .int, 2, 0, 0, 0), 0, 0, 0)), (27, (9, (.putfield 24, 3, 0, 0, 0), 6, 2, 0)), (30, (4, (.return_, 1, 0, 0, 0), 0, 0, 0))]
def tbX6_init : List (Nat × ev_Jn) := tbX6_init_0
def cfX6_init : ev_Cf := fun k vs S D => match k with
  | 0 => wJ9_max vs S D
  | _ => none
def gX6_init (vs : List Value) (S : ev_S) (D : ev_D) : Option ev_Rs := bif vs.all ev_plain && decide (vs.length ≤ 2) then ev_run tbX6_init cfX6_init 4000 0 (vs.map some ++ List.replicate (2 - vs.length) none) [] (ev_z S) D else none
def tnX6_init : List (Nat × ev_Jn) := [(1, (12, (.invokespecial 3, 3, 0, 0, 0), 0, 0, 0)), (12, (10, (.invokestatic 15, 3, 0, 0, 0), 0, 2, 1)), (15, (9, (.putfield 21, 3, 0, 0, 0), 6, 1, 0)), (25, (7, (.newarray .int, 2, 0, 0, 0), 0, 0, 0)), (27, (9, (.putfield 24, 3, 0, 0, 0), 6, 2, 0)), (30, (4, (.return_, 1, 0, 0, 0), 0, 0, 0))]
set_option maxRecDepth 100000 in
theorem jX6_init_1 : ev_jok cfX6_init RX6 cX6_init 2 1 true 1 (12, (.invokespecial 3, 3, 0, 0, 0), 0, 0, 0) := ⟨3, (mt_1 (List.mem_of_getElem? (i := 185) rfl)), ac_oi, ac_oc, by decide, by decide +kernel⟩
set_option maxRecDepth 100000 in
theorem jX6_init_12 : ev_jok cfX6_init RX6 cX6_init 2 1 true 12 (10, (.invokestatic 15, 3, 0, 0, 0), 0, 2, 1) := ⟨15, yJ9_max_7cf53, cJ9_max_7cf53, 2, (some .int), 0, YJ9_max, (Or.inl (mt_1 (List.mem_of_getElem? (i := 186) rfl))), by decide, fun _ _ => rfl, by decide +kernel, fun vs S D v S2 D2 h => mwJ9_max h⟩
set_option maxRecDepth 100000 in
theorem jX6_init_15 : ev_jok cfX6_init RX6 cX6_init 2 1 true 15 (9, (.putfield 21, 3, 0, 0, 0), 6, 1, 0) := ⟨21, (RX6, TX6, 3), rfl, by decide, (mt_1 (List.mem_of_getElem? (i := 192) rfl)), Or.inr ⟨rfl, rfl, rfl⟩, by decide +kernel⟩
set_option maxRecDepth 100000 in
theorem jX6_init_25 : ev_jok cfX6_init RX6 cX6_init 2 1 true 25 (7, (.newarray .int, 2, 0, 0, 0), 0, 0, 0) := ⟨ac_int, by decide +kernel⟩
set_option maxRecDepth 100000 in
theorem jX6_init_27 : ev_jok cfX6_init RX6 cX6_init 2 1 true 27 (9, (.putfield 24, 3, 0, 0, 0), 6, 2, 0) := ⟨24, (RX6, TX6, 3), rfl, by decide, (mt_1 (List.mem_of_getElem? (i := 193) rfl)), Or.inr ⟨rfl, rfl, rfl⟩, by decide +kernel⟩
set_option maxRecDepth 100000 in
theorem jX6_init_30 : ev_jok cfX6_init RX6 cX6_init 2 1 true 30 (4, (.return_, 1, 0, 0, 0), 0, 0, 0) := (show decode cX6_init 30 = .ok (.return_, 1) by decide +kernel)
set_option maxRecDepth 100000 in
theorem jnX6_init : ∀ e ∈ tnX6_init, ev_jok cfX6_init RX6 cX6_init 2 1 true e.1 e.2 := List.forall_mem_cons.mpr ⟨jX6_init_1, List.forall_mem_cons.mpr ⟨jX6_init_12, List.forall_mem_cons.mpr ⟨jX6_init_15, List.forall_mem_cons.mpr ⟨jX6_init_25, List.forall_mem_cons.mpr ⟨jX6_init_27, List.forall_mem_cons.mpr ⟨jX6_init_30, fun _ h => absurd h List.not_mem_nil⟩⟩⟩⟩⟩⟩
set_option maxRecDepth 100000 in
theorem pkX6_init_0 : tbX6_init_0.all (ev_pk cX6_init lk_RX6 2) = true := by decide +kernel
set_option maxRecDepth 100000 in
theorem jtX6_init : ∀ e ∈ tbX6_init, ev_jok cfX6_init RX6 cX6_init 2 1 true e.1 e.2 := ev_tball (lk := lk_RX6) lkok_RX6 pkX6_init_0 rfl jnX6_init
set_option maxRecDepth 100000 in
theorem mgX6_init {vs : List Value} {S : ev_S} {D : ev_D} {v : Int32} {S2 : ev_S} {D2 : ev_D} (h : gX6_init vs S D = some (v, S2, D2)) : ev_M 1 (sC S2) (sA S2) yX6_init cX6_init 2 none vs S D S2 (v, D2) := by
  unfold gX6_init at h
  obtain ⟨h1, h2, h3⟩ := ev_bif h
  exact ev_met (ini := true) (plainFor_of_name (by decide)) (fun _ => rfl) h1 (of_decide_eq_true h2) (fun F hR => ev_run_ok hR (Or.inl rfl) jtX6_init (ev_no5 (by decide +kernel)) 4000 0 _ [] (ev_z S) D h3)
def tbX7_init_0 : List (Nat × ev_Jn) := [(0, (0, (.aload_n 0, 1, 0, 0, 0), 0, 0, 0)), (1, (12, (.invokespecial 3, 3, 0, 0, 0), 0, 0, 0)), (4, (0, (.aload_n 0, 1, 0, 0, 0), 0, 0, 0)), (5, (6, (.new 9, 3, 0, 0, 0), 1, 8, 0)), (8, (0, (.dup, 1, 0, 0, 0), 0, 0, 0)), (9, (11, (.invokespecial 11, 3, 0, 0, 0), 0, 0, 0)), (12, (9, (.putfield 12, 3, 0, 0, 0), 7, 0, 0)), (15, (0, (.aload_n 0, 1, 0, 0, 0), 0, 0, 0)), (16, (6, (.new 18, 3, 0, 0, 0), 6, 3, 0)), (19, (0, (.dup, 1, 0, 0, 0), 0, 0, 0)), (20, (0, (.bipush 16, 2, 0, 0, 16), 0, 0, 0)), (22, (11, (.invokespecial 20, 3, 0, 0, 0), 1, 1, 0)), (25, (9, (.putfield 23, 3, 0, 0, 0), 7, 1, 0)), (28, (0, (.aload_n 0, 1, 0, 0, 0), 0, 0, 0)), (29, (6, (.new 18, 3, 0, 0, 0), 6, 3, 0)), (32, (0, (.dup, 1, 0, 0, 0), 0, 0, 0)), (33, (0, (.bipush 16, 2, 0, 0, 16), 0, 0, 0)), (35, (11, (.invokespecial 20, 3, 0, 0, 0), 1, 1, 0)), (38, (9, (.putfield 27, 3, 0, 0, 0), 7, 2, 0)), (41, (0, (.aload_n 0, 1, 0, 0, 0), 0, 0, 0)), (42, (6, (.new 18, 3, 0, 0, 0), 6, 3, 0)), (45, (0, (.dup, 1, 0, 0, 0), 0, 0, 0)), (46, (0, (.bipush 16, 2, 0, 0, 16), 0, 0, 0)), (48, (11, (.invokespecial 20, 3, 0, 0, 0), 1, 1, 0)), (51, (9, (.putfield 30, 3, 0, 0, 0), 7, 3, 0)), (54, (4, (.return_, 1, 0, 0, 0), 0, 0, 0))]
def tbX7_init : List (Nat × ev_Jn) := tbX7_init_0
def cfX7_init : ev_Cf := fun k vs S D => match k with
  | 0 => gX1_init vs S D
  | 1 => gX6_init vs S D
  | _ => none
def gX7_init (vs : List Value) (S : ev_S) (D : ev_D) : Option ev_Rs := bif vs.all ev_plain && decide (vs.length ≤ 1) then ev_run tbX7_init cfX7_init 4000 0 (vs.map some ++ List.replicate (1 - vs.length) none) [] (ev_z S) D else none
def tnX7_init : List (Nat × ev_Jn) := [(1, (12, (.invokespecial 3, 3, 0, 0, 0), 0, 0, 0)), (5, (6, (.new 9, 3, 0, 0, 0), 1, 8, 0)), (9, (11, (.invokespecial 11, 3, 0, 0, 0), 0, 0, 0)), (12, (9, (.putfield 12, 3, 0, 0, 0), 7, 0, 0)), (16, (6, (.new 18, 3, 0, 0, 0), 6, 3, 0)), (22, (11, (.invokespecial 20, 3, 0, 0, 0), 1, 1, 0)), (25, (9, (.putfield 23, 3, 0, 0, 0), 7, 1, 0)), (29, (6, (.new 18, 3, 0, 0, 0), 6, 3, 0)), (35, (11, (.invokespecial 20, 3, 0, 0, 0), 1, 1, 0)), (38, (9, (.putfield 27, 3, 0, 0, 0), 7, 2, 0)), (42, (6, (.new 18, 3, 0, 0, 0), 6, 3, 0)), (48, (11, (.invokespecial 20, 3, 0, 0, 0), 1, 1, 0)), (51, (9, (.putfield 30, 3, 0, 0, 0), 7, 3, 0)), (54, (4, (.return_, 1, 0, 0, 0), 0, 0, 0))]
set_option maxRecDepth 100000 in
theorem jX7_init_1 : ev_jok cfX7_init RX7 cX7_init 1 2 true 1 (12, (.invokespecial 3, 3, 0, 0, 0), 0, 0, 0) := ⟨3, (mt_1 (List.mem_of_getElem? (i := 147) rfl)), ac_oi, ac_oc, by decide, by decide +kernel⟩
set_option maxRecDepth 100000 in
theorem jX7_init_5 : ev_jok cfX7_init RX7 cX7_init 1 2 true 5 (6, (.new 9, 3, 0, 0, 0), 1, 8, 0) := ⟨9, (RX1, TX1, 8), rfl, rfl, (mt_1 (List.mem_of_getElem? (i := 148) rfl)), (mt_1 (List.mem_of_getElem? (i := 149) rfl)), (mt_1 (List.mem_of_getElem? (i := 8) rfl)), by decide +kernel⟩
set_option maxRecDepth 100000 in
theorem jX7_init_9 : ev_jok cfX7_init RX7 cX7_init 1 2 true 9 (11, (.invokespecial 11, 3, 0, 0, 0), 0, 0, 0) := ⟨11, yX1_init, cX1_init, 1, 1, YcX1_init, (Or.inr ⟨"DeafBells", (mt_1 (List.mem_of_getElem? (i := 150) rfl))⟩), by decide, by decide +kernel, fun vs S D v S2 D2 h => mgX1_init h⟩
set_option maxRecDepth 100000 in
theorem jX7_init_12 : ev_jok cfX7_init RX7 cX7_init 1 2 true 12 (9, (.putfield 12, 3, 0, 0, 0), 7, 0, 0) := ⟨12, (RX7, TX7, 4), rfl, by decide, (mt_1 (List.mem_of_getElem? (i := 201) rfl)), Or.inr ⟨rfl, rfl, rfl⟩, by decide +kernel⟩
set_option maxRecDepth 100000 in
theorem jX7_init_16 : ev_jok cfX7_init RX7 cX7_init 1 2 true 16 (6, (.new 18, 3, 0, 0, 0), 6, 3, 0) := ⟨18, (RX6, TX6, 3), rfl, rfl, (mt_1 (List.mem_of_getElem? (i := 180) rfl)), (mt_1 (List.mem_of_getElem? (i := 181) rfl)), (mt_1 (List.mem_of_getElem? (i := 9) rfl)), by decide +kernel⟩
set_option maxRecDepth 100000 in
theorem jX7_init_22 : ev_jok cfX7_init RX7 cX7_init 1 2 true 22 (11, (.invokespecial 20, 3, 0, 0, 0), 1, 1, 0) := ⟨20, yX6_init, cX6_init, 2, 1, YcX6_init, (Or.inl (mt_1 (List.mem_of_getElem? (i := 182) rfl))), by decide, by decide +kernel, fun vs S D v S2 D2 h => mgX6_init h⟩
set_option maxRecDepth 100000 in
theorem jX7_init_25 : ev_jok cfX7_init RX7 cX7_init 1 2 true 25 (9, (.putfield 23, 3, 0, 0, 0), 7, 1, 0) := ⟨23, (RX7, TX7, 4), rfl, by decide, (mt_1 (List.mem_of_getElem? (i := 205) rfl)), Or.inr ⟨rfl, rfl, rfl⟩, by decide +kernel⟩
set_option maxRecDepth 100000 in
theorem jX7_init_29 : ev_jok cfX7_init RX7 cX7_init 1 2 true 29 (6, (.new 18, 3, 0, 0, 0), 6, 3, 0) := ⟨18, (RX6, TX6, 3), rfl, rfl, (mt_1 (List.mem_of_getElem? (i := 180) rfl)), (mt_1 (List.mem_of_getElem? (i := 181) rfl)), (mt_1 (List.mem_of_getElem? (i := 9) rfl)), by decide +kernel⟩
set_option maxRecDepth 100000 in
theorem jX7_init_35 : ev_jok cfX7_init RX7 cX7_init 1 2 true 35 (11, (.invokespecial 20, 3, 0, 0, 0), 1, 1, 0) := ⟨20, yX6_init, cX6_init, 2, 1, YcX6_init, (Or.inl (mt_1 (List.mem_of_getElem? (i := 182) rfl))), by decide, by decide +kernel, fun vs S D v S2 D2 h => mgX6_init h⟩
set_option maxRecDepth 100000 in
theorem jX7_init_38 : ev_jok cfX7_init RX7 cX7_init 1 2 true 38 (9, (.putfield 27, 3, 0, 0, 0), 7, 2, 0) := ⟨27, (RX7, TX7, 4), rfl, by decide, (mt_1 (List.mem_of_getElem? (i := 208) rfl)), Or.inr ⟨rfl, rfl, rfl⟩, by decide +kernel⟩
set_option maxRecDepth 100000 in
theorem jX7_init_42 : ev_jok cfX7_init RX7 cX7_init 1 2 true 42 (6, (.new 18, 3, 0, 0, 0), 6, 3, 0) := ⟨18, (RX6, TX6, 3), rfl, rfl, (mt_1 (List.mem_of_getElem? (i := 180) rfl)), (mt_1 (List.mem_of_getElem? (i := 181) rfl)), (mt_1 (List.mem_of_getElem? (i := 9) rfl)), by decide +kernel⟩
set_option maxRecDepth 100000 in
theorem jX7_init_48 : ev_jok cfX7_init RX7 cX7_init 1 2 true 48 (11, (.invokespecial 20, 3, 0, 0, 0), 1, 1, 0) := ⟨20, yX6_init, cX6_init, 2, 1, YcX6_init, (Or.inl (mt_1 (List.mem_of_getElem? (i := 182) rfl))), by decide, by decide +kernel, fun vs S D v S2 D2 h => mgX6_init h⟩
set_option maxRecDepth 100000 in
theorem jX7_init_51 : ev_jok cfX7_init RX7 cX7_init 1 2 true 51 (9, (.putfield 30, 3, 0, 0, 0), 7, 3, 0) := ⟨30, (RX7, TX7, 4), rfl, by decide, (mt_1 (List.mem_of_getElem? (i := 212) rfl)), Or.inr ⟨rfl, rfl, rfl⟩, by decide +kernel⟩
set_option maxRecDepth 100000 in
theorem jX7_init_54 : ev_jok cfX7_init RX7 cX7_init 1 2 true 54 (4, (.return_, 1, 0, 0, 0), 0, 0, 0) := (show decode cX7_init 54 = .ok (.return_, 1) by decide +kernel)
set_option maxRecDepth 100000 in
theorem jnX7_init : ∀ e ∈ tnX7_init, ev_jok cfX7_init RX7 cX7_init 1 2 true e.1 e.2 := List.forall_mem_cons.mpr ⟨jX7_init_1, List.forall_mem_cons.mpr ⟨jX7_init_5, List.forall_mem_cons.mpr ⟨jX7_init_9, List.forall_mem_cons.mpr ⟨jX7_init_12, List.forall_mem_cons.mpr ⟨jX7_init_16, List.forall_mem_cons.mpr ⟨jX7_init_22, List.forall_mem_cons.mpr ⟨jX7_init_25, List.forall_mem_cons.mpr ⟨jX7_init_29, List.forall_mem_cons.mpr ⟨jX7_init_35, List.forall_mem_cons.mpr ⟨jX7_init_38, List.forall_mem_cons.mpr ⟨jX7_init_42, List.forall_mem_cons.mpr ⟨jX7_init_48, List.forall_mem_cons.mpr ⟨jX7_init_51, List.forall_mem_cons.mpr ⟨jX7_init_54, fun _ h => absurd h List.not_mem_nil⟩⟩⟩⟩⟩⟩⟩⟩⟩⟩⟩⟩⟩⟩
set_option maxRecDepth 100000 in
theorem pkX7_init_0 : tbX7_init_0.all (ev_pk cX7_init lk_RX7 1) = true := by decide +kernel
set_option maxRecDepth 100000 in
theorem jtX7_init : ∀ e ∈ tbX7_init, ev_jok cfX7_init RX7 cX7_init 1 2 true e.1 e.2 := ev_tball (lk := lk_RX7) lkok_RX7 pkX7_init_0 rfl jnX7_init
set_option maxRecDepth 100000 in
theorem mgX7_init {vs : List Value} {S : ev_S} {D : ev_D} {v : Int32} {S2 : ev_S} {D2 : ev_D} (h : gX7_init vs S D = some (v, S2, D2)) : ev_M 2 (sC S2) (sA S2) yX7_init cX7_init 1 none vs S D S2 (v, D2) := by
  unfold gX7_init at h
  obtain ⟨h1, h2, h3⟩ := ev_bif h
  exact ev_met (ini := true) (plainFor_of_name (by decide)) (fun _ => rfl) h1 (of_decide_eq_true h2) (fun F hR => ev_run_ok hR (Or.inl rfl) jtX7_init (ev_no5 (by decide +kernel)) 4000 0 _ [] (ev_z S) D h3)
def tbX8_init_0 : List (Nat × ev_Jn) := [(0, (0, (.aload_n 0, 1, 0, 0, 0), 0, 0, 0)), (1, (12, (.invokespecial 3, 3, 0, 0, 0), 0, 0, 0)), (4, (0, (.aload_n 0, 1, 0, 0, 0), 0, 0, 0)), (5, (6, (.new 9, 3, 0, 0, 0), 6, 3, 0)), (8, (0, (.dup, 1, 0, 0, 0), 0, 0, 0)), (9, (0, (.bipush 10, 2, 0, 0, 10), 0, 0, 0)), (11, (11, (.invokespecial 11, 3, 0, 0, 0), 0, 1, 0)), (14, (9, (.putfield 14, 3, 0, 0, 0), 8, 0, 0)), (17, (0, (.aload_n 0, 1, 0, 0, 0), 0, 0, 0)), (18, (6, (.new 9, 3, 0, 0, 0), 6, 3, 0)), (21, (0, (.dup, 1, 0, 0, 0), 0, 0, 0)), (22, (0, (.bipush 6, 2, 0, 0, 6), 0, 0, 0)), (24, (11, (.invokespecial 11, 3, 0, 0, 0), 0, 1, 0)), (27, (9, (.putfield 20, 3, 0, 0, 0), 8, 1, 0)), (30, (0, (.aload_n 0, 1, 0, 0, 0), 0, 0, 0)), (31, (6, (.new 9, 3, 0, 0, 0), 6, 3, 0)), (34, (0, (.dup, 1, 0, 0, 0), 0, 0, 0)), (35, (0, (.bipush 16, 2, 0, 0, 16), 0, 0, 0)), (37, (11, (.invokespecial 11, 3, 0, 0, 0), 0, 1, 0)), (40, (9, (.putfield 23, 3, 0, 0, 0), 8, 2, 0)), (43, (0, (.aload_n 0, 1, 0, 0, 0), 0, 0, 0)), (44, (6, (.new 9, 3, 0, 0, 0), 6, 3, 0)), (47, (0, (.dup, 1, 0, 0, 0), 0, 0, 0)), (48, (0, (.bipush 24, 2, 0, 0, 24), 0, 0, 0)), (50, (11, (.invokespecial 11, 3, 0, 0, 0), 0, 1, 0)), (53, (9, (.putfield 26, 3, 0, 0, 0), 8, 3, 0)), (56, (0, (.aload_n 0, 1, 0, 0, 0), 0, 0, 0)), (57, (6, (.new 9, 3, 0, 0, 0), 6, 3, 0)), (60, (0, (.dup, 1, 0, 0, 0), 0, 0, 0)), (61, (0, (.bipush 20, 2, 0, 0, 20), 0, 0, 0))]
def tbX8_init_1 : List (Nat × ev_Jn) := [(63, (11, (.invokespecial 11, 3, 0, 0, 0), 0, 1, 0)), (66, (9, (.putfield 29, 3, 0, 0, 0), 8, 4, 0)), (69, (0, (.aload_n 0, 1, 0, 0, 0), 0, 0, 0)), (70, (0, (.bipush 80, 2, 0, 0, 80), 0, 0, 0)), (72, (7, (.newarray .int, 2, 0, 0, 0), 0, 0, 0)), (74, (9, (.putfield 32, 3, 0, 0, 0), 8, 5, 0)), (77, (0, (.aload_n 0, 1, 0, 0, 0), 0, 0, 0)), (78, (0, (.bipush 10, 2, 0, 0, 10), 0, 0, 0)), (80, (7, (.newarray .int, 2, 0, 0, 0), 0, 0, 0)), (82, (9, (.putfield 36, 3, 0, 0, 0), 8, 6, 0)), (85, (4, (.return_, 1, 0, 0, 0), 0, 0, 0))]
def tbX8_init : List (Nat × ev_Jn) := tbX8_init_0 ++ (tbX8_init_1)
def cfX8_init : ev_Cf := fun k vs S D => match k with
  | 0 => gX6_init vs S D
  | _ => none
def gX8_init (vs : List Value) (S : ev_S) (D : ev_D) : Option ev_Rs := bif vs.all ev_plain && decide (vs.length ≤ 1) then ev_run tbX8_init cfX8_init 4000 0 (vs.map some ++ List.replicate (1 - vs.length) none) [] (ev_z S) D else none
def tnX8_init : List (Nat × ev_Jn) := [(1, (12, (.invokespecial 3, 3, 0, 0, 0), 0, 0, 0)), (5, (6, (.new 9, 3, 0, 0, 0), 6, 3, 0)), (11, (11, (.invokespecial 11, 3, 0, 0, 0), 0, 1, 0)), (14, (9, (.putfield 14, 3, 0, 0, 0), 8, 0, 0)), (18, (6, (.new 9, 3, 0, 0, 0), 6, 3, 0)), (24, (11, (.invokespecial 11, 3, 0, 0, 0), 0, 1, 0)), (27, (9, (.putfield 20, 3, 0, 0, 0), 8, 1, 0)), (31, (6, (.new 9, 3, 0, 0, 0), 6, 3, 0)), (37, (11, (.invokespecial 11, 3, 0, 0, 0), 0, 1, 0)), (40, (9, (.putfield 23, 3, 0, 0, 0), 8, 2, 0)), (44, (6, (.new 9, 3, 0, 0, 0), 6, 3, 0)), (50, (11, (.invokespecial 11, 3, 0, 0, 0), 0, 1, 0)), (53, (9, (.putfield 26, 3, 0, 0, 0), 8, 3, 0)), (57, (6, (.new 9, 3, 0, 0, 0), 6, 3, 0)), (63, (11, (.invokespecial 11, 3, 0, 0, 0), 0, 1, 0)), (66, (9, (.putfield 29, 3, 0, 0, 0), 8, 4, 0)), (72, (7, (.newarray .int, 2, 0, 0, 0), 0, 0, 0)), (74, (9, (.putfield 32, 3, 0, 0, 0), 8, 5, 0)), (80, (7, (.newarray .int, 2, 0, 0, 0), 0, 0, 0)), (82, (9, (.putfield 36, 3, 0, 0, 0), 8, 6, 0)), (85, (4, (.return_, 1, 0, 0, 0), 0, 0, 0))]
set_option maxRecDepth 100000 in
theorem jX8_init_1 : ev_jok cfX8_init RX8 cX8_init 1 2 true 1 (12, (.invokespecial 3, 3, 0, 0, 0), 0, 0, 0) := ⟨3, (mt_1 (List.mem_of_getElem? (i := 230) rfl)), ac_oi, ac_oc, by decide, by decide +kernel⟩
set_option maxRecDepth 100000 in
theorem jX8_init_5 : ev_jok cfX8_init RX8 cX8_init 1 2 true 5 (6, (.new 9, 3, 0, 0, 0), 6, 3, 0) := ⟨9, (RX6, TX6, 3), rfl, rfl, (mt_1 (List.mem_of_getElem? (i := 231) rfl)), (mt_1 (List.mem_of_getElem? (i := 181) rfl)), (mt_1 (List.mem_of_getElem? (i := 9) rfl)), by decide +kernel⟩
set_option maxRecDepth 100000 in
theorem jX8_init_11 : ev_jok cfX8_init RX8 cX8_init 1 2 true 11 (11, (.invokespecial 11, 3, 0, 0, 0), 0, 1, 0) := ⟨11, yX6_init, cX6_init, 2, 1, YcX6_init, (Or.inl (mt_1 (List.mem_of_getElem? (i := 232) rfl))), by decide, by decide +kernel, fun vs S D v S2 D2 h => mgX6_init h⟩
set_option maxRecDepth 100000 in
theorem jX8_init_14 : ev_jok cfX8_init RX8 cX8_init 1 2 true 14 (9, (.putfield 14, 3, 0, 0, 0), 8, 0, 0) := ⟨14, (RX8, TX8, 7), rfl, by decide, (mt_1 (List.mem_of_getElem? (i := 233) rfl)), Or.inr ⟨rfl, rfl, rfl⟩, by decide +kernel⟩
set_option maxRecDepth 100000 in
theorem jX8_init_18 : ev_jok cfX8_init RX8 cX8_init 1 2 true 18 (6, (.new 9, 3, 0, 0, 0), 6, 3, 0) := ⟨9, (RX6, TX6, 3), rfl, rfl, (mt_1 (List.mem_of_getElem? (i := 231) rfl)), (mt_1 (List.mem_of_getElem? (i := 181) rfl)), (mt_1 (List.mem_of_getElem? (i := 9) rfl)), by decide +kernel⟩
set_option maxRecDepth 100000 in
theorem jX8_init_24 : ev_jok cfX8_init RX8 cX8_init 1 2 true 24 (11, (.invokespecial 11, 3, 0, 0, 0), 0, 1, 0) := ⟨11, yX6_init, cX6_init, 2, 1, YcX6_init, (Or.inl (mt_1 (List.mem_of_getElem? (i := 232) rfl))), by decide, by decide +kernel, fun vs S D v S2 D2 h => mgX6_init h⟩
set_option maxRecDepth 100000 in
theorem jX8_init_27 : ev_jok cfX8_init RX8 cX8_init 1 2 true 27 (9, (.putfield 20, 3, 0, 0, 0), 8, 1, 0) := ⟨20, (RX8, TX8, 7), rfl, by decide, (mt_1 (List.mem_of_getElem? (i := 236) rfl)), Or.inr ⟨rfl, rfl, rfl⟩, by decide +kernel⟩
set_option maxRecDepth 100000 in
theorem jX8_init_31 : ev_jok cfX8_init RX8 cX8_init 1 2 true 31 (6, (.new 9, 3, 0, 0, 0), 6, 3, 0) := ⟨9, (RX6, TX6, 3), rfl, rfl, (mt_1 (List.mem_of_getElem? (i := 231) rfl)), (mt_1 (List.mem_of_getElem? (i := 181) rfl)), (mt_1 (List.mem_of_getElem? (i := 9) rfl)), by decide +kernel⟩
set_option maxRecDepth 100000 in
theorem jX8_init_37 : ev_jok cfX8_init RX8 cX8_init 1 2 true 37 (11, (.invokespecial 11, 3, 0, 0, 0), 0, 1, 0) := ⟨11, yX6_init, cX6_init, 2, 1, YcX6_init, (Or.inl (mt_1 (List.mem_of_getElem? (i := 232) rfl))), by decide, by decide +kernel, fun vs S D v S2 D2 h => mgX6_init h⟩
set_option maxRecDepth 100000 in
theorem jX8_init_40 : ev_jok cfX8_init RX8 cX8_init 1 2 true 40 (9, (.putfield 23, 3, 0, 0, 0), 8, 2, 0) := ⟨23, (RX8, TX8, 7), rfl, by decide, (mt_1 (List.mem_of_getElem? (i := 239) rfl)), Or.inr ⟨rfl, rfl, rfl⟩, by decide +kernel⟩
set_option maxRecDepth 100000 in
theorem jX8_init_44 : ev_jok cfX8_init RX8 cX8_init 1 2 true 44 (6, (.new 9, 3, 0, 0, 0), 6, 3, 0) := ⟨9, (RX6, TX6, 3), rfl, rfl, (mt_1 (List.mem_of_getElem? (i := 231) rfl)), (mt_1 (List.mem_of_getElem? (i := 181) rfl)), (mt_1 (List.mem_of_getElem? (i := 9) rfl)), by decide +kernel⟩
set_option maxRecDepth 100000 in
theorem jX8_init_50 : ev_jok cfX8_init RX8 cX8_init 1 2 true 50 (11, (.invokespecial 11, 3, 0, 0, 0), 0, 1, 0) := ⟨11, yX6_init, cX6_init, 2, 1, YcX6_init, (Or.inl (mt_1 (List.mem_of_getElem? (i := 232) rfl))), by decide, by decide +kernel, fun vs S D v S2 D2 h => mgX6_init h⟩
set_option maxRecDepth 100000 in
theorem jX8_init_53 : ev_jok cfX8_init RX8 cX8_init 1 2 true 53 (9, (.putfield 26, 3, 0, 0, 0), 8, 3, 0) := ⟨26, (RX8, TX8, 7), rfl, by decide, (mt_2 (List.mem_of_getElem? (i := 2) rfl)), Or.inr ⟨rfl, rfl, rfl⟩, by decide +kernel⟩
set_option maxRecDepth 100000 in
theorem jX8_init_57 : ev_jok cfX8_init RX8 cX8_init 1 2 true 57 (6, (.new 9, 3, 0, 0, 0), 6, 3, 0) := ⟨9, (RX6, TX6, 3), rfl, rfl, (mt_1 (List.mem_of_getElem? (i := 231) rfl)), (mt_1 (List.mem_of_getElem? (i := 181) rfl)), (mt_1 (List.mem_of_getElem? (i := 9) rfl)), by decide +kernel⟩
set_option maxRecDepth 100000 in
theorem jX8_init_63 : ev_jok cfX8_init RX8 cX8_init 1 2 true 63 (11, (.invokespecial 11, 3, 0, 0, 0), 0, 1, 0) := ⟨11, yX6_init, cX6_init, 2, 1, YcX6_init, (Or.inl (mt_1 (List.mem_of_getElem? (i := 232) rfl))), by decide, by decide +kernel, fun vs S D v S2 D2 h => mgX6_init h⟩
set_option maxRecDepth 100000 in
theorem jX8_init_66 : ev_jok cfX8_init RX8 cX8_init 1 2 true 66 (9, (.putfield 29, 3, 0, 0, 0), 8, 4, 0) := ⟨29, (RX8, TX8, 7), rfl, by decide, (mt_2 (List.mem_of_getElem? (i := 5) rfl)), Or.inr ⟨rfl, rfl, rfl⟩, by decide +kernel⟩
set_option maxRecDepth 100000 in
theorem jX8_init_72 : ev_jok cfX8_init RX8 cX8_init 1 2 true 72 (7, (.newarray .int, 2, 0, 0, 0), 0, 0, 0) := ⟨ac_int, by decide +kernel⟩
set_option maxRecDepth 100000 in
theorem jX8_init_74 : ev_jok cfX8_init RX8 cX8_init 1 2 true 74 (9, (.putfield 32, 3, 0, 0, 0), 8, 5, 0) := ⟨32, (RX8, TX8, 7), rfl, by decide, (mt_2 (List.mem_of_getElem? (i := 8) rfl)), Or.inr ⟨rfl, rfl, rfl⟩, by decide +kernel⟩
set_option maxRecDepth 100000 in
theorem jX8_init_80 : ev_jok cfX8_init RX8 cX8_init 1 2 true 80 (7, (.newarray .int, 2, 0, 0, 0), 0, 0, 0) := ⟨ac_int, by decide +kernel⟩
set_option maxRecDepth 100000 in
theorem jX8_init_82 : ev_jok cfX8_init RX8 cX8_init 1 2 true 82 (9, (.putfield 36, 3, 0, 0, 0), 8, 6, 0) := ⟨36, (RX8, TX8, 7), rfl, by decide, (mt_2 (List.mem_of_getElem? (i := 10) rfl)), Or.inr ⟨rfl, rfl, rfl⟩, by decide +kernel⟩
set_option maxRecDepth 100000 in
theorem jX8_init_85 : ev_jok cfX8_init RX8 cX8_init 1 2 true 85 (4, (.return_, 1, 0, 0, 0), 0, 0, 0) := (show decode cX8_init 85 = .ok (.return_, 1) by decide +kernel)
set_option maxRecDepth 100000 in
theorem jnX8_init : ∀ e ∈ tnX8_init, ev_jok cfX8_init RX8 cX8_init 1 2 true e.1 e.2 := List.forall_mem_cons.mpr ⟨jX8_init_1, List.forall_mem_cons.mpr ⟨jX8_init_5, List.forall_mem_cons.mpr ⟨jX8_init_11, List.forall_mem_cons.mpr ⟨jX8_init_14, List.forall_mem_cons.mpr ⟨jX8_init_18, List.forall_mem_cons.mpr ⟨jX8_init_24, List.forall_mem_cons.mpr ⟨jX8_init_27, List.forall_mem_cons.mpr ⟨jX8_init_31, List.forall_mem_cons.mpr ⟨jX8_init_37, List.forall_mem_cons.mpr ⟨jX8_init_40, List.forall_mem_cons.mpr ⟨jX8_init_44, List.forall_mem_cons.mpr ⟨jX8_init_50, List.forall_mem_cons.mpr ⟨jX8_init_53, List.forall_mem_cons.mpr ⟨jX8_init_57, List.forall_mem_cons.mpr ⟨jX8_init_63, List.forall_mem_cons.mpr ⟨jX8_init_66, List.forall_mem_cons.mpr ⟨jX8_init_72, List.forall_mem_cons.mpr ⟨jX8_init_74, List.forall_mem_cons.mpr ⟨jX8_init_80, List.forall_mem_cons.mpr ⟨jX8_init_82, List.forall_mem_cons.mpr ⟨jX8_init_85, fun _ h => absurd h List.not_mem_nil⟩⟩⟩⟩⟩⟩⟩⟩⟩⟩⟩⟩⟩⟩⟩⟩⟩⟩⟩⟩⟩
set_option maxRecDepth 100000 in
theorem pkX8_init_0 : tbX8_init_0.all (ev_pk cX8_init lk_RX8 1) = true := by decide +kernel
set_option maxRecDepth 100000 in
theorem pkX8_init_1 : tbX8_init_1.all (ev_pk cX8_init lk_RX8 1) = true := by decide +kernel
set_option maxRecDepth 100000 in
theorem jtX8_init : ∀ e ∈ tbX8_init, ev_jok cfX8_init RX8 cX8_init 1 2 true e.1 e.2 := ev_tball (lk := lk_RX8) lkok_RX8 (ev_all2 pkX8_init_0 pkX8_init_1) rfl jnX8_init
set_option maxRecDepth 100000 in
theorem mgX8_init {vs : List Value} {S : ev_S} {D : ev_D} {v : Int32} {S2 : ev_S} {D2 : ev_D} (h : gX8_init vs S D = some (v, S2, D2)) : ev_M 2 (sC S2) (sA S2) yX8_init cX8_init 1 none vs S D S2 (v, D2) := by
  unfold gX8_init at h
  obtain ⟨h1, h2, h3⟩ := ev_bif h
  exact ev_met (ini := true) (plainFor_of_name (by decide)) (fun _ => rfl) h1 (of_decide_eq_true h2) (fun F hR => ev_run_ok hR (Or.inl rfl) jtX8_init (ev_no5 (by decide +kernel)) 4000 0 _ [] (ev_z S) D h3)
def tbX10_init_0 : List (Nat × ev_Jn) := [(0, (0, (.aload_n 0, 1, 0, 0, 0), 0, 0, 0)), (1, (12, (.invokespecial 3, 3, 0, 0, 0), 0, 0, 0)), (4, (0, (.aload_n 0, 1, 0, 0, 0), 0, 0, 0)), (5, (6, (.new 9, 3, 0, 0, 0), 9, 14, 0)), (8, (0, (.dup, 1, 0, 0, 0), 0, 0, 0)), (9, (11, (.invokespecial 11, 3, 0, 0, 0), 0, 0, 0)), (12, (9, (.putfield 12, 3, 0, 0, 0), 10, 0, 0)), (15, (0, (.aload_n 0, 1, 0, 0, 0), 0, 0, 0)), (16, (6, (.new 18, 3, 0, 0, 0), 0, 3, 0)), (19, (0, (.dup, 1, 0, 0, 0), 0, 0, 0)), (20, (0, (.sipush 150, 3, 0, 0, 150), 0, 0, 0)), (23, (11, (.invokespecial 20, 3, 0, 0, 0), 1, 1, 0)), (26, (9, (.putfield 23, 3, 0, 0, 0), 10, 1, 0)), (29, (0, (.aload_n 0, 1, 0, 0, 0), 0, 0, 0)), (30, (6, (.new 27, 3, 0, 0, 0), 7, 4, 0)), (33, (0, (.dup, 1, 0, 0, 0), 0, 0, 0)), (34, (11, (.invokespecial 29, 3, 0, 0, 0), 2, 0, 0)), (37, (9, (.putfield 30, 3, 0, 0, 0), 10, 2, 0)), (40, (0, (.aload_n 0, 1, 0, 0, 0), 0, 0, 0)), (41, (6, (.new 34, 3, 0, 0, 0), 8, 7, 0)), (44, (0, (.dup, 1, 0, 0, 0), 0, 0, 0)), (45, (11, (.invokespecial 36, 3, 0, 0, 0), 3, 0, 0)), (48, (9, (.putfield 37, 3, 0, 0, 0), 10, 3, 0)), (51, (4, (.return_, 1, 0, 0, 0), 0, 0, 0))]
def tbX10_init : List (Nat × ev_Jn) := tbX10_init_0
def cfX10_init : ev_Cf := fun k vs S D => match k with
  | 0 => gX9_init vs S D
  | 1 => gX0_init vs S D
  | 2 => gX7_init vs S D
  | 3 => gX8_init vs S D
  | _ => none
def gX10_init (vs : List Value) (S : ev_S) (D : ev_D) : Option ev_Rs := bif vs.all ev_plain && decide (vs.length ≤ 1) then ev_run tbX10_init cfX10_init 4000 0 (vs.map some ++ List.replicate (1 - vs.length) none) [] (ev_z S) D else none
def tnX10_init : List (Nat × ev_Jn) := [(1, (12, (.invokespecial 3, 3, 0, 0, 0), 0, 0, 0)), (5, (6, (.new 9, 3, 0, 0, 0), 9, 14, 0)), (9, (11, (.invokespecial 11, 3, 0, 0, 0), 0, 0, 0)), (12, (9, (.putfield 12, 3, 0, 0, 0), 10, 0, 0)), (16, (6, (.new 18, 3, 0, 0, 0), 0, 3, 0)), (23, (11, (.invokespecial 20, 3, 0, 0, 0), 1, 1, 0)), (26, (9, (.putfield 23, 3, 0, 0, 0), 10, 1, 0)), (30, (6, (.new 27, 3, 0, 0, 0), 7, 4, 0)), (34, (11, (.invokespecial 29, 3, 0, 0, 0), 2, 0, 0)), (37, (9, (.putfield 30, 3, 0, 0, 0), 10, 2, 0)), (41, (6, (.new 34, 3, 0, 0, 0), 8, 7, 0)), (45, (11, (.invokespecial 36, 3, 0, 0, 0), 3, 0, 0)), (48, (9, (.putfield 37, 3, 0, 0, 0), 10, 3, 0)), (51, (4, (.return_, 1, 0, 0, 0), 0, 0, 0))]
set_option maxRecDepth 100000 in
theorem jX10_init_1 : ev_jok cfX10_init RX10 cX10_init 1 3 true 1 (12, (.invokespecial 3, 3, 0, 0, 0), 0, 0, 0) := ⟨3, (mt_1 (List.mem_of_getElem? (i := 36) rfl)), ac_oi, ac_oc, by decide, by decide +kernel⟩
set_option maxRecDepth 100000 in
theorem jX10_init_5 : ev_jok cfX10_init RX10 cX10_init 1 3 true 5 (6, (.new 9, 3, 0, 0, 0), 9, 14, 0) := ⟨9, (RX9, TX9, 14), rfl, rfl, (mt_1 (List.mem_of_getElem? (i := 37) rfl)), (mt_1 (List.mem_of_getElem? (i := 38) rfl)), (mt_1 (List.mem_of_getElem? (i := 3) rfl)), by decide +kernel⟩
set_option maxRecDepth 100000 in
theorem jX10_init_9 : ev_jok cfX10_init RX10 cX10_init 1 3 true 9 (11, (.invokespecial 11, 3, 0, 0, 0), 0, 0, 0) := ⟨11, yX9_init, cX9_init, 1, 1, YcX9_init, (Or.inl (mt_1 (List.mem_of_getElem? (i := 39) rfl))), by decide, by decide +kernel, fun vs S D v S2 D2 h => mgX9_init h⟩
set_option maxRecDepth 100000 in
theorem jX10_init_12 : ev_jok cfX10_init RX10 cX10_init 1 3 true 12 (9, (.putfield 12, 3, 0, 0, 0), 10, 0, 0) := ⟨12, (RX10, TX10, 4), rfl, by decide, (mt_2 (List.mem_of_getElem? (i := 28) rfl)), Or.inr ⟨rfl, rfl, rfl⟩, by decide +kernel⟩
set_option maxRecDepth 100000 in
theorem jX10_init_16 : ev_jok cfX10_init RX10 cX10_init 1 3 true 16 (6, (.new 18, 3, 0, 0, 0), 0, 3, 0) := ⟨18, (RX0, TX0, 3), rfl, rfl, (mt_1 (List.mem_of_getElem? (i := 121) rfl)), (mt_1 (List.mem_of_getElem? (i := 122) rfl)), (mt_1 (List.mem_of_getElem? (i := 5) rfl)), by decide +kernel⟩
set_option maxRecDepth 100000 in
theorem jX10_init_23 : ev_jok cfX10_init RX10 cX10_init 1 3 true 23 (11, (.invokespecial 20, 3, 0, 0, 0), 1, 1, 0) := ⟨20, yX0_init, cX0_init, 2, 1, YcX0_init, (Or.inl (mt_1 (List.mem_of_getElem? (i := 123) rfl))), by decide, by decide +kernel, fun vs S D v S2 D2 h => mgX0_init h⟩
set_option maxRecDepth 100000 in
theorem jX10_init_26 : ev_jok cfX10_init RX10 cX10_init 1 3 true 26 (9, (.putfield 23, 3, 0, 0, 0), 10, 1, 0) := ⟨23, (RX10, TX10, 4), rfl, by decide, (mt_2 (List.mem_of_getElem? (i := 30) rfl)), Or.inr ⟨rfl, rfl, rfl⟩, by decide +kernel⟩
set_option maxRecDepth 100000 in
theorem jX10_init_30 : ev_jok cfX10_init RX10 cX10_init 1 3 true 30 (6, (.new 27, 3, 0, 0, 0), 7, 4, 0) := ⟨27, (RX7, TX7, 4), rfl, rfl, (mt_1 (List.mem_of_getElem? (i := 142) rfl)), (mt_1 (List.mem_of_getElem? (i := 143) rfl)), (mt_1 (List.mem_of_getElem? (i := 7) rfl)), by decide +kernel⟩
set_option maxRecDepth 100000 in
theorem jX10_init_34 : ev_jok cfX10_init RX10 cX10_init 1 3 true 34 (11, (.invokespecial 29, 3, 0, 0, 0), 2, 0, 0) := ⟨29, yX7_init, cX7_init, 1, 2, YcX7_init, (Or.inr ⟨"DeafBells", (mt_1 (List.mem_of_getElem? (i := 144) rfl))⟩), by decide, by decide +kernel, fun vs S D v S2 D2 h => mgX7_init h⟩
set_option maxRecDepth 100000 in
theorem jX10_init_37 : ev_jok cfX10_init RX10 cX10_init 1 3 true 37 (9, (.putfield 30, 3, 0, 0, 0), 10, 2, 0) := ⟨30, (RX10, TX10, 4), rfl, by decide, (mt_2 (List.mem_of_getElem? (i := 32) rfl)), Or.inr ⟨rfl, rfl, rfl⟩, by decide +kernel⟩
set_option maxRecDepth 100000 in
theorem jX10_init_41 : ev_jok cfX10_init RX10 cX10_init 1 3 true 41 (6, (.new 34, 3, 0, 0, 0), 8, 7, 0) := ⟨34, (RX8, TX8, 7), rfl, rfl, (mt_1 (List.mem_of_getElem? (i := 225) rfl)), (mt_1 (List.mem_of_getElem? (i := 226) rfl)), (mt_1 (List.mem_of_getElem? (i := 10) rfl)), by decide +kernel⟩
set_option maxRecDepth 100000 in
theorem jX10_init_45 : ev_jok cfX10_init RX10 cX10_init 1 3 true 45 (11, (.invokespecial 36, 3, 0, 0, 0), 3, 0, 0) := ⟨36, yX8_init, cX8_init, 1, 2, YcX8_init, (Or.inr ⟨"DeafBells", (mt_1 (List.mem_of_getElem? (i := 227) rfl))⟩), by decide, by decide +kernel, fun vs S D v S2 D2 h => mgX8_init h⟩
set_option maxRecDepth 100000 in
theorem jX10_init_48 : ev_jok cfX10_init RX10 cX10_init 1 3 true 48 (9, (.putfield 37, 3, 0, 0, 0), 10, 3, 0) := ⟨37, (RX10, TX10, 4), rfl, by decide, (mt_2 (List.mem_of_getElem? (i := 34) rfl)), Or.inr ⟨rfl, rfl, rfl⟩, by decide +kernel⟩
set_option maxRecDepth 100000 in
theorem jX10_init_51 : ev_jok cfX10_init RX10 cX10_init 1 3 true 51 (4, (.return_, 1, 0, 0, 0), 0, 0, 0) := (show decode cX10_init 51 = .ok (.return_, 1) by decide +kernel)
set_option maxRecDepth 100000 in
theorem jnX10_init : ∀ e ∈ tnX10_init, ev_jok cfX10_init RX10 cX10_init 1 3 true e.1 e.2 := List.forall_mem_cons.mpr ⟨jX10_init_1, List.forall_mem_cons.mpr ⟨jX10_init_5, List.forall_mem_cons.mpr ⟨jX10_init_9, List.forall_mem_cons.mpr ⟨jX10_init_12, List.forall_mem_cons.mpr ⟨jX10_init_16, List.forall_mem_cons.mpr ⟨jX10_init_23, List.forall_mem_cons.mpr ⟨jX10_init_26, List.forall_mem_cons.mpr ⟨jX10_init_30, List.forall_mem_cons.mpr ⟨jX10_init_34, List.forall_mem_cons.mpr ⟨jX10_init_37, List.forall_mem_cons.mpr ⟨jX10_init_41, List.forall_mem_cons.mpr ⟨jX10_init_45, List.forall_mem_cons.mpr ⟨jX10_init_48, List.forall_mem_cons.mpr ⟨jX10_init_51, fun _ h => absurd h List.not_mem_nil⟩⟩⟩⟩⟩⟩⟩⟩⟩⟩⟩⟩⟩⟩
set_option maxRecDepth 100000 in
theorem pkX10_init_0 : tbX10_init_0.all (ev_pk cX10_init lk_RX10 1) = true := by decide +kernel
set_option maxRecDepth 100000 in
theorem jtX10_init : ∀ e ∈ tbX10_init, ev_jok cfX10_init RX10 cX10_init 1 3 true e.1 e.2 := ev_tball (lk := lk_RX10) lkok_RX10 pkX10_init_0 rfl jnX10_init
set_option maxRecDepth 100000 in
theorem mgX10_init {vs : List Value} {S : ev_S} {D : ev_D} {v : Int32} {S2 : ev_S} {D2 : ev_D} (h : gX10_init vs S D = some (v, S2, D2)) : ev_M 3 (sC S2) (sA S2) yX10_init cX10_init 1 none vs S D S2 (v, D2) := by
  unfold gX10_init at h
  obtain ⟨h1, h2, h3⟩ := ev_bif h
  exact ev_met (ini := true) (plainFor_of_name (by decide)) (fun _ => rfl) h1 (of_decide_eq_true h2) (fun F hR => ev_run_ok hR (Or.inl rfl) jtX10_init (ev_no5 (by decide +kernel)) 4000 0 _ [] (ev_z S) D h3)
def tbX2_init_0 : List (Nat × ev_Jn) := [(0, (0, (.aload_n 0, 1, 0, 0, 0), 0, 0, 0)), (1, (12, (.invokespecial 3, 3, 0, 0, 0), 0, 0, 0)), (4, (0, (.aload_n 0, 1, 0, 0, 0), 0, 0, 0)), (5, (0, (.iconst 0, 1, 0, 0, 0), 0, 0, 0)), (6, (0, (.putfield 9, 3, 2, 0, 0), 0, 0, 0)), (9, (0, (.aload_n 0, 1, 0, 0, 0), 0, 0, 0)), (10, (0, (.iconst 0, 1, 0, 0, 0), 0, 0, 0)), (11, (0, (.putfield 15, 3, 2, 1, 0), 0, 0, 0)), (14, (0, (.aload_n 0, 1, 0, 0, 0), 0, 0, 0)), (15, (0, (.bipush 6, 2, 0, 0, 6), 0, 0, 0)), (17, (8, (.anewarray 18, 3, 0, 0, 0), 0, 0, 0)), (20, (9, (.putfield 20, 3, 0, 0, 0), 2, 2, 0)), (23, (0, (.aload_n 0, 1, 0, 0, 0), 0, 0, 0)), (24, (0, (.bipush 6, 2, 0, 0, 6), 0, 0, 0)), (26, (7, (.newarray .int, 2, 0, 0, 0), 0, 0, 0)), (28, (9, (.putfield 24, 3, 0, 0, 0), 2, 3, 0)), (31, (0, (.iconst 0, 1, 0, 0, 0), 0, 0, 0)), (32, (0, (.istore_n 1, 1, 0, 0, 0), 0, 0, 0)), (33, (0, (.iload_n 1, 1, 0, 0, 0), 0, 0, 0)), (34, (0, (.bipush 6, 2, 0, 0, 6), 0, 0, 0)), (36, (3, (.if_icmp .ge 22, 3, 0, 0, 0), 58, 3, 0)), (39, (0, (.aload_n 0, 1, 0, 0, 0), 0, 0, 0)), (40, (0, (.getfield 20, 3, 2, 2, 0), 0, 0, 0)), (43, (0, (.iload_n 1, 1, 0, 0, 0), 0, 0, 0)), (44, (6, (.new 18, 3, 0, 0, 0), 9, 14, 0)), (47, (0, (.dup, 1, 0, 0, 0), 0, 0, 0)), (48, (11, (.invokespecial 28, 3, 0, 0, 0), 0, 0, 0)), (51, (13, (.aastore, 1, 0, 0, 0), 0, 0, 0)), (52, (0, (.iinc 1 1, 3, 0, 0, 1), 0, 0, 0)), (55, (1, (.goto (-22), 3, 0, 0, 0), 33, 0, 0))]
def tbX2_init_1 : List (Nat × ev_Jn) := [(58, (4, (.return_, 1, 0, 0, 0), 0, 0, 0))]
def tbX2_init : List (Nat × ev_Jn) := tbX2_init_0 ++ (tbX2_init_1)
def cfX2_init : ev_Cf := fun k vs S D => match k with
  | 0 => gX9_init vs S D
  | _ => none
def gX2_init (vs : List Value) (S : ev_S) (D : ev_D) : Option ev_Rs := bif vs.all ev_plain && decide (vs.length ≤ 2) then ev_run tbX2_init cfX2_init 4000 0 (vs.map some ++ List.replicate (2 - vs.length) none) [] (ev_z S) D else none
def tnX2_init : List (Nat × ev_Jn) := [(1, (12, (.invokespecial 3, 3, 0, 0, 0), 0, 0, 0)), (17, (8, (.anewarray 18, 3, 0, 0, 0), 0, 0, 0)), (20, (9, (.putfield 20, 3, 0, 0, 0), 2, 2, 0)), (26, (7, (.newarray .int, 2, 0, 0, 0), 0, 0, 0)), (28, (9, (.putfield 24, 3, 0, 0, 0), 2, 3, 0)), (36, (3, (.if_icmp .ge 22, 3, 0, 0, 0), 58, 3, 0)), (44, (6, (.new 18, 3, 0, 0, 0), 9, 14, 0)), (48, (11, (.invokespecial 28, 3, 0, 0, 0), 0, 0, 0)), (51, (13, (.aastore, 1, 0, 0, 0), 0, 0, 0)), (55, (1, (.goto (-22), 3, 0, 0, 0), 33, 0, 0)), (58, (4, (.return_, 1, 0, 0, 0), 0, 0, 0))]
set_option maxRecDepth 100000 in
theorem jX2_init_1 : ev_jok cfX2_init RX2 cX2_init 2 2 true 1 (12, (.invokespecial 3, 3, 0, 0, 0), 0, 0, 0) := ⟨3, (mt_2 (List.mem_of_getElem? (i := 50) rfl)), ac_oi, ac_oc, by decide, by decide +kernel⟩
set_option maxRecDepth 100000 in
theorem jX2_init_17 : ev_jok cfX2_init RX2 cX2_init 2 2 true 17 (8, (.anewarray 18, 3, 0, 0, 0), 0, 0, 0) := ⟨18, (mt_2 (List.mem_of_getElem? (i := 51) rfl)), ac_tow, by decide +kernel⟩
set_option maxRecDepth 100000 in
theorem jX2_init_20 : ev_jok cfX2_init RX2 cX2_init 2 2 true 20 (9, (.putfield 20, 3, 0, 0, 0), 2, 2, 0) := ⟨20, (RX2, TX2, 4), rfl, by decide, (mt_2 (List.mem_of_getElem? (i := 57) rfl)), Or.inr ⟨rfl, rfl, rfl⟩, by decide +kernel⟩
set_option maxRecDepth 100000 in
theorem jX2_init_26 : ev_jok cfX2_init RX2 cX2_init 2 2 true 26 (7, (.newarray .int, 2, 0, 0, 0), 0, 0, 0) := ⟨ac_int, by decide +kernel⟩
set_option maxRecDepth 100000 in
theorem jX2_init_28 : ev_jok cfX2_init RX2 cX2_init 2 2 true 28 (9, (.putfield 24, 3, 0, 0, 0), 2, 3, 0) := ⟨24, (RX2, TX2, 4), rfl, by decide, (mt_2 (List.mem_of_getElem? (i := 58) rfl)), Or.inr ⟨rfl, rfl, rfl⟩, by decide +kernel⟩
set_option maxRecDepth 100000 in
theorem jX2_init_36 : ev_jok cfX2_init RX2 cX2_init 2 2 true 36 (3, (.if_icmp .ge 22, 3, 0, 0, 0), 58, 3, 0) := ⟨22, (show decode cX2_init 36 = .ok (.if_icmp .ge 22, 3) by decide +kernel), by decide⟩
set_option maxRecDepth 100000 in
theorem jX2_init_44 : ev_jok cfX2_init RX2 cX2_init 2 2 true 44 (6, (.new 18, 3, 0, 0, 0), 9, 14, 0) := ⟨18, (RX9, TX9, 14), rfl, rfl, (mt_2 (List.mem_of_getElem? (i := 51) rfl)), (mt_1 (List.mem_of_getElem? (i := 38) rfl)), (mt_1 (List.mem_of_getElem? (i := 3) rfl)), by decide +kernel⟩
set_option maxRecDepth 100000 in
theorem jX2_init_48 : ev_jok cfX2_init RX2 cX2_init 2 2 true 48 (11, (.invokespecial 28, 3, 0, 0, 0), 0, 0, 0) := ⟨28, yX9_init, cX9_init, 1, 1, YcX9_init, (Or.inl (mt_2 (List.mem_of_getElem? (i := 53) rfl))), by decide, by decide +kernel, fun vs S D v S2 D2 h => mgX9_init h⟩
set_option maxRecDepth 100000 in
theorem jX2_init_51 : ev_jok cfX2_init RX2 cX2_init 2 2 true 51 (13, (.aastore, 1, 0, 0, 0), 0, 0, 0) := (show decode cX2_init 51 = .ok (.aastore, 1) by decide +kernel)
set_option maxRecDepth 100000 in
theorem jX2_init_55 : ev_jok cfX2_init RX2 cX2_init 2 2 true 55 (1, (.goto (-22), 3, 0, 0, 0), 33, 0, 0) := ⟨(-22), by decide +kernel, by decide⟩
set_option maxRecDepth 100000 in
theorem jX2_init_58 : ev_jok cfX2_init RX2 cX2_init 2 2 true 58 (4, (.return_, 1, 0, 0, 0), 0, 0, 0) := (show decode cX2_init 58 = .ok (.return_, 1) by decide +kernel)
set_option maxRecDepth 100000 in
theorem jnX2_init : ∀ e ∈ tnX2_init, ev_jok cfX2_init RX2 cX2_init 2 2 true e.1 e.2 := List.forall_mem_cons.mpr ⟨jX2_init_1, List.forall_mem_cons.mpr ⟨jX2_init_17, List.forall_mem_cons.mpr ⟨jX2_init_20, List.forall_mem_cons.mpr ⟨jX2_init_26, List.forall_mem_cons.mpr ⟨jX2_init_28, List.forall_mem_cons.mpr ⟨jX2_init_36, List.forall_mem_cons.mpr ⟨jX2_init_44, List.forall_mem_cons.mpr ⟨jX2_init_48, List.forall_mem_cons.mpr ⟨jX2_init_51, List.forall_mem_cons.mpr ⟨jX2_init_55, List.forall_mem_cons.mpr ⟨jX2_init_58, fun _ h => absurd h List.not_mem_nil⟩⟩⟩⟩⟩⟩⟩⟩⟩⟩⟩
set_option maxRecDepth 100000 in
theorem pkX2_init_0 : tbX2_init_0.all (ev_pk cX2_init lk_RX2 2) = true := by decide +kernel
set_option maxRecDepth 100000 in
theorem pkX2_init_1 : tbX2_init_1.all (ev_pk cX2_init lk_RX2 2) = true := by decide +kernel
set_option maxRecDepth 100000 in
theorem jtX2_init : ∀ e ∈ tbX2_init, ev_jok cfX2_init RX2 cX2_init 2 2 true e.1 e.2 := ev_tball (lk := lk_RX2) lkok_RX2 (ev_all2 pkX2_init_0 pkX2_init_1) rfl jnX2_init
set_option maxRecDepth 100000 in
theorem mgX2_init {vs : List Value} {S : ev_S} {D : ev_D} {v : Int32} {S2 : ev_S} {D2 : ev_D} (h : gX2_init vs S D = some (v, S2, D2)) : ev_M 2 (sC S2) (sA S2) yX2_init cX2_init 2 none vs S D S2 (v, D2) := by
  unfold gX2_init at h
  obtain ⟨h1, h2, h3⟩ := ev_bif h
  exact ev_met (ini := true) (plainFor_of_name (by decide)) (fun _ => rfl) h1 (of_decide_eq_true h2) (fun F hR => ev_run_ok hR (Or.inl rfl) jtX2_init (ev_no5 (by decide +kernel)) 4000 0 _ [] (ev_z S) D h3)
def tbX4_init_0 : List (Nat × ev_Jn) := [(0, (0, (.aload_n 0, 1, 0, 0, 0), 0, 0, 0)), (1, (12, (.invokespecial 5, 3, 0, 0, 0), 0, 0, 0)), (4, (0, (.aload_n 0, 1, 0, 0, 0), 0, 0, 0)), (5, (6, (.new 11, 3, 0, 0, 0), 7, 4, 0)), (8, (0, (.dup, 1, 0, 0, 0), 0, 0, 0)), (9, (11, (.invokespecial 13, 3, 0, 0, 0), 0, 0, 0)), (12, (9, (.putfield 14, 3, 0, 0, 0), 4, 0, 0)), (15, (0, (.aload_n 0, 1, 0, 0, 0), 0, 0, 0)), (16, (0, (.iconst 0, 1, 0, 0, 0), 0, 0, 0)), (17, (0, (.putfield 18, 3, 4, 1, 0), 0, 0, 0)), (20, (0, (.aload_n 0, 1, 0, 0, 0), 0, 0, 0)), (21, (0, (.iconst 0, 1, 0, 0, 0), 0, 0, 0)), (22, (0, (.putfield 22, 3, 4, 2, 0), 0, 0, 0)), (25, (0, (.aload_n 0, 1, 0, 0, 0), 0, 0, 0)), (26, (0, (.iconst (-1), 1, 0, 0, (-1)), 0, 0, 0)), (27, (0, (.putfield 25, 3, 4, 3, 0), 0, 0, 0)), (30, (0, (.aload_n 0, 1, 0, 0, 0), 0, 0, 0)), (31, (0, (.sipush 400, 3, 0, 0, 400), 0, 0, 0)), (34, (7, (.newarray .int, 2, 0, 0, 0), 0, 0, 0)), (36, (9, (.putfield 28, 3, 0, 0, 0), 4, 4, 0)), (39, (0, (.aload_n 0, 1, 0, 0, 0), 0, 0, 0)), (40, (0, (.sipush 401, 3, 0, 0, 401), 0, 0, 0)), (43, (7, (.newarray .int, 2, 0, 0, 0), 0, 0, 0)), (45, (9, (.putfield 32, 3, 0, 0, 0), 4, 5, 0)), (48, (0, (.aload_n 0, 1, 0, 0, 0), 0, 0, 0)), (49, (0, (.sipush 401, 3, 0, 0, 401), 0, 0, 0)), (52, (7, (.newarray .int, 2, 0, 0, 0), 0, 0, 0)), (54, (9, (.putfield 35, 3, 0, 0, 0), 4, 6, 0)), (57, (0, (.aload_n 0, 1, 0, 0, 0), 0, 0, 0)), (58, (0, (.sipush 401, 3, 0, 0, 401), 0, 0, 0))]
def tbX4_init_1 : List (Nat × ev_Jn) := [(61, (7, (.newarray .int, 2, 0, 0, 0), 0, 0, 0)), (63, (9, (.putfield 38, 3, 0, 0, 0), 4, 7, 0)), (66, (0, (.aload_n 0, 1, 0, 0, 0), 0, 0, 0)), (67, (0, (.iconst 0, 1, 0, 0, 0), 0, 0, 0)), (68, (0, (.putfield 41, 3, 4, 8, 0), 0, 0, 0)), (71, (0, (.aload_n 0, 1, 0, 0, 0), 0, 0, 0)), (72, (0, (.iconst 0, 1, 0, 0, 0), 0, 0, 0)), (73, (0, (.putfield 44, 3, 4, 9, 0), 0, 0, 0)), (76, (0, (.aload_n 0, 1, 0, 0, 0), 0, 0, 0)), (77, (0, (.iconst 0, 1, 0, 0, 0), 0, 0, 0)), (78, (0, (.putfield 47, 3, 4, 10, 0), 0, 0, 0)), (81, (0, (.aload_n 0, 1, 0, 0, 0), 0, 0, 0)), (82, (0, (.iconst 0, 1, 0, 0, 0), 0, 0, 0)), (83, (0, (.putfield 50, 3, 4, 11, 0), 0, 0, 0)), (86, (4, (.return_, 1, 0, 0, 0), 0, 0, 0))]
def tbX4_init : List (Nat × ev_Jn) := tbX4_init_0 ++ (tbX4_init_1)
def cfX4_init : ev_Cf := fun k vs S D => match k with
  | 0 => gX7_init vs S D
  | _ => none
def gX4_init (vs : List Value) (S : ev_S) (D : ev_D) : Option ev_Rs := bif vs.all ev_plain && decide (vs.length ≤ 1) then ev_run tbX4_init cfX4_init 4000 0 (vs.map some ++ List.replicate (1 - vs.length) none) [] (ev_z S) D else none
def tnX4_init : List (Nat × ev_Jn) := [(1, (12, (.invokespecial 5, 3, 0, 0, 0), 0, 0, 0)), (5, (6, (.new 11, 3, 0, 0, 0), 7, 4, 0)), (9, (11, (.invokespecial 13, 3, 0, 0, 0), 0, 0, 0)), (12, (9, (.putfield 14, 3, 0, 0, 0), 4, 0, 0)), (34, (7, (.newarray .int, 2, 0, 0, 0), 0, 0, 0)), (36, (9, (.putfield 28, 3, 0, 0, 0), 4, 4, 0)), (43, (7, (.newarray .int, 2, 0, 0, 0), 0, 0, 0)), (45, (9, (.putfield 32, 3, 0, 0, 0), 4, 5, 0)), (52, (7, (.newarray .int, 2, 0, 0, 0), 0, 0, 0)), (54, (9, (.putfield 35, 3, 0, 0, 0), 4, 6, 0)), (61, (7, (.newarray .int, 2, 0, 0, 0), 0, 0, 0)), (63, (9, (.putfield 38, 3, 0, 0, 0), 4, 7, 0)), (86, (4, (.return_, 1, 0, 0, 0), 0, 0, 0))]
set_option maxRecDepth 100000 in
theorem jX4_init_1 : ev_jok cfX4_init RX4 cX4_init 1 3 true 1 (12, (.invokespecial 5, 3, 0, 0, 0), 0, 0, 0) := ⟨5, (mt_2 (List.mem_of_getElem? (i := 73) rfl)), ac_oi, ac_oc, by decide, by decide +kernel⟩
set_option maxRecDepth 100000 in
theorem jX4_init_5 : ev_jok cfX4_init RX4 cX4_init 1 3 true 5 (6, (.new 11, 3, 0, 0, 0), 7, 4, 0) := ⟨11, (RX7, TX7, 4), rfl, rfl, (mt_2 (List.mem_of_getElem? (i := 74) rfl)), (mt_1 (List.mem_of_getElem? (i := 143) rfl)), (mt_1 (List.mem_of_getElem? (i := 7) rfl)), by decide +kernel⟩
set_option maxRecDepth 100000 in
theorem jX4_init_9 : ev_jok cfX4_init RX4 cX4_init 1 3 true 9 (11, (.invokespecial 13, 3, 0, 0, 0), 0, 0, 0) := ⟨13, yX7_init, cX7_init, 1, 2, YcX7_init, (Or.inr ⟨"DeafBells", (mt_2 (List.mem_of_getElem? (i := 75) rfl))⟩), by decide, by decide +kernel, fun vs S D v S2 D2 h => mgX7_init h⟩
set_option maxRecDepth 100000 in
theorem jX4_init_12 : ev_jok cfX4_init RX4 cX4_init 1 3 true 12 (9, (.putfield 14, 3, 0, 0, 0), 4, 0, 0) := ⟨14, (RX4, TX4, 12), rfl, by decide, (mt_2 (List.mem_of_getElem? (i := 76) rfl)), Or.inr ⟨rfl, rfl, rfl⟩, by decide +kernel⟩
set_option maxRecDepth 100000 in
theorem jX4_init_34 : ev_jok cfX4_init RX4 cX4_init 1 3 true 34 (7, (.newarray .int, 2, 0, 0, 0), 0, 0, 0) := ⟨ac_int, by decide +kernel⟩
set_option maxRecDepth 100000 in
theorem jX4_init_36 : ev_jok cfX4_init RX4 cX4_init 1 3 true 36 (9, (.putfield 28, 3, 0, 0, 0), 4, 4, 0) := ⟨28, (RX4, TX4, 12), rfl, by decide, (mt_2 (List.mem_of_getElem? (i := 84) rfl)), Or.inr ⟨rfl, rfl, rfl⟩, by decide +kernel⟩
set_option maxRecDepth 100000 in
theorem jX4_init_43 : ev_jok cfX4_init RX4 cX4_init 1 3 true 43 (7, (.newarray .int, 2, 0, 0, 0), 0, 0, 0) := ⟨ac_int, by decide +kernel⟩
set_option maxRecDepth 100000 in
theorem jX4_init_45 : ev_jok cfX4_init RX4 cX4_init 1 3 true 45 (9, (.putfield 32, 3, 0, 0, 0), 4, 5, 0) := ⟨32, (RX4, TX4, 12), rfl, by decide, (mt_2 (List.mem_of_getElem? (i := 85) rfl)), Or.inr ⟨rfl, rfl, rfl⟩, by decide +kernel⟩
set_option maxRecDepth 100000 in
theorem jX4_init_52 : ev_jok cfX4_init RX4 cX4_init 1 3 true 52 (7, (.newarray .int, 2, 0, 0, 0), 0, 0, 0) := ⟨ac_int, by decide +kernel⟩
set_option maxRecDepth 100000 in
theorem jX4_init_54 : ev_jok cfX4_init RX4 cX4_init 1 3 true 54 (9, (.putfield 35, 3, 0, 0, 0), 4, 6, 0) := ⟨35, (RX4, TX4, 12), rfl, by decide, (mt_2 (List.mem_of_getElem? (i := 86) rfl)), Or.inr ⟨rfl, rfl, rfl⟩, by decide +kernel⟩
set_option maxRecDepth 100000 in
theorem jX4_init_61 : ev_jok cfX4_init RX4 cX4_init 1 3 true 61 (7, (.newarray .int, 2, 0, 0, 0), 0, 0, 0) := ⟨ac_int, by decide +kernel⟩
set_option maxRecDepth 100000 in
theorem jX4_init_63 : ev_jok cfX4_init RX4 cX4_init 1 3 true 63 (9, (.putfield 38, 3, 0, 0, 0), 4, 7, 0) := ⟨38, (RX4, TX4, 12), rfl, by decide, (mt_2 (List.mem_of_getElem? (i := 87) rfl)), Or.inr ⟨rfl, rfl, rfl⟩, by decide +kernel⟩
set_option maxRecDepth 100000 in
theorem jX4_init_86 : ev_jok cfX4_init RX4 cX4_init 1 3 true 86 (4, (.return_, 1, 0, 0, 0), 0, 0, 0) := (show decode cX4_init 86 = .ok (.return_, 1) by decide +kernel)
set_option maxRecDepth 100000 in
theorem jnX4_init : ∀ e ∈ tnX4_init, ev_jok cfX4_init RX4 cX4_init 1 3 true e.1 e.2 := List.forall_mem_cons.mpr ⟨jX4_init_1, List.forall_mem_cons.mpr ⟨jX4_init_5, List.forall_mem_cons.mpr ⟨jX4_init_9, List.forall_mem_cons.mpr ⟨jX4_init_12, List.forall_mem_cons.mpr ⟨jX4_init_34, List.forall_mem_cons.mpr ⟨jX4_init_36, List.forall_mem_cons.mpr ⟨jX4_init_43, List.forall_mem_cons.mpr ⟨jX4_init_45, List.forall_mem_cons.mpr ⟨jX4_init_52, List.forall_mem_cons.mpr ⟨jX4_init_54, List.forall_mem_cons.mpr ⟨jX4_init_61, List.forall_mem_cons.mpr ⟨jX4_init_63, List.forall_mem_cons.mpr ⟨jX4_init_86, fun _ h => absurd h List.not_mem_nil⟩⟩⟩⟩⟩⟩⟩⟩⟩⟩⟩⟩⟩
set_option maxRecDepth 100000 in
theorem pkX4_init_0 : tbX4_init_0.all (ev_pk cX4_init lk_RX4 1) = true := by decide +kernel
set_option maxRecDepth 100000 in
theorem pkX4_init_1 : tbX4_init_1.all (ev_pk cX4_init lk_RX4 1) = true := by decide +kernel
set_option maxRecDepth 100000 in
theorem jtX4_init : ∀ e ∈ tbX4_init, ev_jok cfX4_init RX4 cX4_init 1 3 true e.1 e.2 := ev_tball (lk := lk_RX4) lkok_RX4 (ev_all2 pkX4_init_0 pkX4_init_1) rfl jnX4_init
set_option maxRecDepth 100000 in
theorem mgX4_init {vs : List Value} {S : ev_S} {D : ev_D} {v : Int32} {S2 : ev_S} {D2 : ev_D} (h : gX4_init vs S D = some (v, S2, D2)) : ev_M 3 (sC S2) (sA S2) yX4_init cX4_init 1 none vs S D S2 (v, D2) := by
  unfold gX4_init at h
  obtain ⟨h1, h2, h3⟩ := ev_bif h
  exact ev_met (ini := true) (plainFor_of_name (by decide)) (fun _ => rfl) h1 (of_decide_eq_true h2) (fun F hR => ev_run_ok hR (Or.inl rfl) jtX4_init (ev_no5 (by decide +kernel)) 4000 0 _ [] (ev_z S) D h3)
def tbX5_init_0 : List (Nat × ev_Jn) := [(0, (0, (.aload_n 0, 1, 0, 0, 0), 0, 0, 0)), (1, (12, (.invokespecial 3, 3, 0, 0, 0), 0, 0, 0)), (4, (0, (.aload_n 0, 1, 0, 0, 0), 0, 0, 0)), (5, (0, (.bipush 11, 2, 0, 0, 11), 0, 0, 0)), (7, (7, (.newarray .int, 2, 0, 0, 0), 0, 0, 0)), (9, (9, (.putfield 11, 3, 0, 0, 0), 5, 3, 0)), (12, (0, (.aload_n 0, 1, 0, 0, 0), 0, 0, 0)), (13, (0, (.aload_n 1, 1, 0, 0, 0), 0, 0, 0)), (14, (9, (.putfield 17, 3, 0, 0, 0), 5, 0, 0)), (17, (0, (.aload_n 0, 1, 0, 0, 0), 0, 0, 0)), (18, (0, (.aload_n 2, 1, 0, 0, 0), 0, 0, 0)), (19, (9, (.putfield 21, 3, 0, 0, 0), 5, 1, 0)), (22, (0, (.aload_n 0, 1, 0, 0, 0), 0, 0, 0)), (23, (0, (.aload_n 3, 1, 0, 0, 0), 0, 0, 0)), (24, (9, (.putfield 25, 3, 0, 0, 0), 5, 2, 0)), (27, (4, (.return_, 1, 0, 0, 0), 0, 0, 0))]
def tbX5_init : List (Nat × ev_Jn) := tbX5_init_0
def cfX5_init : ev_Cf := fun k vs S D => match k with
  | _ => none
def gX5_init (vs : List Value) (S : ev_S) (D : ev_D) : Option ev_Rs := bif vs.all ev_plain && decide (vs.length ≤ 4) then ev_run tbX5_init cfX5_init 4000 0 (vs.map some ++ List.replicate (4 - vs.length) none) [] (ev_z S) D else none
def tnX5_init : List (Nat × ev_Jn) := [(1, (12, (.invokespecial 3, 3, 0, 0, 0), 0, 0, 0)), (7, (7, (.newarray .int, 2, 0, 0, 0), 0, 0, 0)), (9, (9, (.putfield 11, 3, 0, 0, 0), 5, 3, 0)), (14, (9, (.putfield 17, 3, 0, 0, 0), 5, 0, 0)), (19, (9, (.putfield 21, 3, 0, 0, 0), 5, 1, 0)), (24, (9, (.putfield 25, 3, 0, 0, 0), 5, 2, 0)), (27, (4, (.return_, 1, 0, 0, 0), 0, 0, 0))]
set_option maxRecDepth 100000 in
theorem jX5_init_1 : ev_jok cfX5_init RX5 cX5_init 4 1 true 1 (12, (.invokespecial 3, 3, 0, 0, 0), 0, 0, 0) := ⟨3, (mt_2 (List.mem_of_getElem? (i := 122) rfl)), ac_oi, ac_oc, by decide, by decide +kernel⟩
set_option maxRecDepth 100000 in
theorem jX5_init_7 : ev_jok cfX5_init RX5 cX5_init 4 1 true 7 (7, (.newarray .int, 2, 0, 0, 0), 0, 0, 0) := ⟨ac_int, by decide +kernel⟩
set_option maxRecDepth 100000 in
theorem jX5_init_9 : ev_jok cfX5_init RX5 cX5_init 4 1 true 9 (9, (.putfield 11, 3, 0, 0, 0), 5, 3, 0) := ⟨11, (RX5, TX5, 4), rfl, by decide, (mt_2 (List.mem_of_getElem? (i := 127) rfl)), Or.inr ⟨rfl, rfl, rfl⟩, by decide +kernel⟩
set_option maxRecDepth 100000 in
theorem jX5_init_14 : ev_jok cfX5_init RX5 cX5_init 4 1 true 14 (9, (.putfield 17, 3, 0, 0, 0), 5, 0, 0) := ⟨17, (RX5, TX5, 4), rfl, by decide, (mt_2 (List.mem_of_getElem? (i := 123) rfl)), Or.inr ⟨rfl, rfl, rfl⟩, by decide +kernel⟩
set_option maxRecDepth 100000 in
theorem jX5_init_19 : ev_jok cfX5_init RX5 cX5_init 4 1 true 19 (9, (.putfield 21, 3, 0, 0, 0), 5, 1, 0) := ⟨21, (RX5, TX5, 4), rfl, by decide, (mt_2 (List.mem_of_getElem? (i := 125) rfl)), Or.inr ⟨rfl, rfl, rfl⟩, by decide +kernel⟩
set_option maxRecDepth 100000 in
theorem jX5_init_24 : ev_jok cfX5_init RX5 cX5_init 4 1 true 24 (9, (.putfield 25, 3, 0, 0, 0), 5, 2, 0) := ⟨25, (RX5, TX5, 4), rfl, by decide, (mt_2 (List.mem_of_getElem? (i := 126) rfl)), Or.inr ⟨rfl, rfl, rfl⟩, by decide +kernel⟩
set_option maxRecDepth 100000 in
theorem jX5_init_27 : ev_jok cfX5_init RX5 cX5_init 4 1 true 27 (4, (.return_, 1, 0, 0, 0), 0, 0, 0) := (show decode cX5_init 27 = .ok (.return_, 1) by decide +kernel)
set_option maxRecDepth 100000 in
theorem jnX5_init : ∀ e ∈ tnX5_init, ev_jok cfX5_init RX5 cX5_init 4 1 true e.1 e.2 := List.forall_mem_cons.mpr ⟨jX5_init_1, List.forall_mem_cons.mpr ⟨jX5_init_7, List.forall_mem_cons.mpr ⟨jX5_init_9, List.forall_mem_cons.mpr ⟨jX5_init_14, List.forall_mem_cons.mpr ⟨jX5_init_19, List.forall_mem_cons.mpr ⟨jX5_init_24, List.forall_mem_cons.mpr ⟨jX5_init_27, fun _ h => absurd h List.not_mem_nil⟩⟩⟩⟩⟩⟩⟩
set_option maxRecDepth 100000 in
theorem pkX5_init_0 : tbX5_init_0.all (ev_pk cX5_init lk_RX5 4) = true := by decide +kernel
set_option maxRecDepth 100000 in
theorem jtX5_init : ∀ e ∈ tbX5_init, ev_jok cfX5_init RX5 cX5_init 4 1 true e.1 e.2 := ev_tball (lk := lk_RX5) lkok_RX5 pkX5_init_0 rfl jnX5_init
set_option maxRecDepth 100000 in
theorem mgX5_init {vs : List Value} {S : ev_S} {D : ev_D} {v : Int32} {S2 : ev_S} {D2 : ev_D} (h : gX5_init vs S D = some (v, S2, D2)) : ev_M 1 (sC S2) (sA S2) yX5_init cX5_init 4 none vs S D S2 (v, D2) := by
  unfold gX5_init at h
  obtain ⟨h1, h2, h3⟩ := ev_bif h
  exact ev_met (ini := true) (plainFor_of_name (by decide)) (fun _ => rfl) h1 (of_decide_eq_true h2) (fun F hR => ev_run_ok hR (Or.inl rfl) jtX5_init (ev_no5 (by decide +kernel)) 4000 0 _ [] (ev_z S) D h3)
def tbX3_init_0 : List (Nat × ev_Jn) := [(0, (0, (.aload_n 0, 1, 0, 0, 0), 0, 0, 0)), (1, (12, (.invokespecial 3, 3, 0, 0, 0), 0, 0, 0)), (4, (0, (.aload_n 0, 1, 0, 0, 0), 0, 0, 0)), (5, (0, (.bipush 8, 2, 0, 0, 8), 0, 0, 0)), (7, (7, (.newarray .int, 2, 0, 0, 0), 0, 0, 0)), (9, (9, (.putfield 9, 3, 0, 0, 0), 3, 3, 0)), (12, (0, (.aload_n 0, 1, 0, 0, 0), 0, 0, 0)), (13, (0, (.sipush 256, 3, 0, 0, 256), 0, 0, 0)), (16, (7, (.newarray .int, 2, 0, 0, 0), 0, 0, 0)), (18, (9, (.putfield 15, 3, 0, 0, 0), 3, 4, 0)), (21, (0, (.aload_n 0, 1, 0, 0, 0), 0, 0, 0)), (22, (0, (.sipush 256, 3, 0, 0, 256), 0, 0, 0)), (25, (7, (.newarray .int, 2, 0, 0, 0), 0, 0, 0)), (27, (9, (.putfield 18, 3, 0, 0, 0), 3, 5, 0)), (30, (0, (.aload_n 0, 1, 0, 0, 0), 0, 0, 0)), (31, (0, (.bipush 12, 2, 0, 0, 12), 0, 0, 0)), (33, (7, (.newarray .int, 2, 0, 0, 0), 0, 0, 0)), (35, (9, (.putfield 21, 3, 0, 0, 0), 3, 6, 0)), (38, (0, (.aload_n 0, 1, 0, 0, 0), 0, 0, 0)), (39, (0, (.sipush 181, 3, 0, 0, 181), 0, 0, 0)), (42, (7, (.newarray .int, 2, 0, 0, 0), 0, 0, 0)), (44, (9, (.putfield 24, 3, 0, 0, 0), 3, 7, 0)), (47, (0, (.aload_n 0, 1, 0, 0, 0), 0, 0, 0)), (48, (0, (.sipush 181, 3, 0, 0, 181), 0, 0, 0)), (51, (7, (.newarray .int, 2, 0, 0, 0), 0, 0, 0)), (53, (9, (.putfield 27, 3, 0, 0, 0), 3, 8, 0)), (56, (0, (.aload_n 0, 1, 0, 0, 0), 0, 0, 0)), (57, (0, (.bipush 100, 2, 0, 0, 100), 0, 0, 0)), (59, (7, (.newarray .int, 2, 0, 0, 0), 0, 0, 0)), (61, (9, (.putfield 30, 3, 0, 0, 0), 3, 9, 0))]
def tbX3_init_1 : List (Nat × ev_Jn) := [(64, (0, (.aload_n 0, 1, 0, 0, 0), 0, 0, 0)), (65, (0, (.aload_n 1, 1, 0, 0, 0), 0, 0, 0)), (66, (9, (.putfield 33, 3, 0, 0, 0), 3, 0, 0)), (69, (0, (.aload_n 0, 1, 0, 0, 0), 0, 0, 0)), (70, (0, (.aload_n 2, 1, 0, 0, 0), 0, 0, 0)), (71, (9, (.putfield 37, 3, 0, 0, 0), 3, 1, 0)), (74, (0, (.aload_n 0, 1, 0, 0, 0), 0, 0, 0)), (75, (0, (.aload_n 3, 1, 0, 0, 0), 0, 0, 0)), (76, (9, (.putfield 41, 3, 0, 0, 0), 3, 2, 0)), (79, (0, (.iconst 1, 1, 0, 0, 1), 0, 0, 0)), (80, (0, (.istore 4, 2, 0, 0, 0), 0, 0, 0)), (82, (0, (.iload 4, 2, 0, 0, 0), 0, 0, 0)), (84, (0, (.bipush 99, 2, 0, 0, 99), 0, 0, 0)), (86, (3, (.if_icmp .gt 37, 3, 0, 0, 0), 123, 4, 0)), (89, (0, (.aload_n 0, 1, 0, 0, 0), 0, 0, 0)), (90, (0, (.getfield 30, 3, 3, 9, 0), 0, 0, 0)), (93, (0, (.iload 4, 2, 0, 0, 0), 0, 0, 0)), (95, (0, (.aload_n 0, 1, 0, 0, 0), 0, 0, 0)), (96, (0, (.getfield 30, 3, 3, 9, 0), 0, 0, 0)), (99, (0, (.iload 4, 2, 0, 0, 0), 0, 0, 0)), (101, (0, (.iconst 1, 1, 0, 0, 1), 0, 0, 0)), (102, (0, (.isub, 1, 0, 0, 0), 0, 0, 0)), (103, (0, (.iaload, 1, 0, 0, 0), 0, 0, 0)), (104, (0, (.aload_n 0, 1, 0, 0, 0), 0, 0, 0)), (105, (0, (.getfield 30, 3, 3, 9, 0), 0, 0, 0)), (108, (0, (.iload 4, 2, 0, 0, 0), 0, 0, 0)), (110, (0, (.iconst 2, 1, 0, 0, 2), 0, 0, 0)), (111, (0, (.idiv, 1, 0, 0, 0), 0, 0, 0)), (112, (0, (.iaload, 1, 0, 0, 0), 0, 0, 0)), (113, (10, (.invokestatic 45, 3, 0, 0, 0), 0, 2, 1))]
def tbX3_init_2 : List (Nat × ev_Jn) := [(116, (0, (.iastore, 1, 0, 0, 0), 0, 0, 0)), (117, (0, (.iinc 4 1, 3, 0, 0, 1), 0, 0, 0)), (120, (1, (.goto (-38), 3, 0, 0, 0), 82, 0, 0)), (123, (4, (.return_, 1, 0, 0, 0), 0, 0, 0))]
def tbX3_init : List (Nat × ev_Jn) := tbX3_init_0 ++ (tbX3_init_1 ++ (tbX3_init_2))
def cfX3_init : ev_Cf := fun k vs S D => match k with
  | 0 => wX3_leastBeside vs S D
  | _ => none
def gX3_init (vs : List Value) (S : ev_S) (D : ev_D) : Option ev_Rs := bif vs.all ev_plain && decide (vs.length ≤ 5) then ev_run tbX3_init cfX3_init 4000 0 (vs.map some ++ List.replicate (5 - vs.length) none) [] (ev_z S) D else none
def tnX3_init : List (Nat × ev_Jn) := [(1, (12, (.invokespecial 3, 3, 0, 0, 0), 0, 0, 0)), (7, (7, (.newarray .int, 2, 0, 0, 0), 0, 0, 0)), (9, (9, (.putfield 9, 3, 0, 0, 0), 3, 3, 0)), (16, (7, (.newarray .int, 2, 0, 0, 0), 0, 0, 0)), (18, (9, (.putfield 15, 3, 0, 0, 0), 3, 4, 0)), (25, (7, (.newarray .int, 2, 0, 0, 0), 0, 0, 0)), (27, (9, (.putfield 18, 3, 0, 0, 0), 3, 5, 0)), (33, (7, (.newarray .int, 2, 0, 0, 0), 0, 0, 0)), (35, (9, (.putfield 21, 3, 0, 0, 0), 3, 6, 0)), (42, (7, (.newarray .int, 2, 0, 0, 0), 0, 0, 0)), (44, (9, (.putfield 24, 3, 0, 0, 0), 3, 7, 0)), (51, (7, (.newarray .int, 2, 0, 0, 0), 0, 0, 0)), (53, (9, (.putfield 27, 3, 0, 0, 0), 3, 8, 0)), (59, (7, (.newarray .int, 2, 0, 0, 0), 0, 0, 0)), (61, (9, (.putfield 30, 3, 0, 0, 0), 3, 9, 0)), (66, (9, (.putfield 33, 3, 0, 0, 0), 3, 0, 0)), (71, (9, (.putfield 37, 3, 0, 0, 0), 3, 1, 0)), (76, (9, (.putfield 41, 3, 0, 0, 0), 3, 2, 0)), (86, (3, (.if_icmp .gt 37, 3, 0, 0, 0), 123, 4, 0)), (113, (10, (.invokestatic 45, 3, 0, 0, 0), 0, 2, 1)), (120, (1, (.goto (-38), 3, 0, 0, 0), 82, 0, 0)), (123, (4, (.return_, 1, 0, 0, 0), 0, 0, 0))]
set_option maxRecDepth 100000 in
theorem jX3_init_1 : ev_jok cfX3_init RX3 cX3_init 5 1 true 1 (12, (.invokespecial 3, 3, 0, 0, 0), 0, 0, 0) := ⟨3, (mt_2 (List.mem_of_getElem? (i := 146) rfl)), ac_oi, ac_oc, by decide, by decide +kernel⟩
set_option maxRecDepth 100000 in
theorem jX3_init_7 : ev_jok cfX3_init RX3 cX3_init 5 1 true 7 (7, (.newarray .int, 2, 0, 0, 0), 0, 0, 0) := ⟨ac_int, by decide +kernel⟩
set_option maxRecDepth 100000 in
theorem jX3_init_9 : ev_jok cfX3_init RX3 cX3_init 5 1 true 9 (9, (.putfield 9, 3, 0, 0, 0), 3, 3, 0) := ⟨9, (RX3, TX3, 10), rfl, by decide, (mt_2 (List.mem_of_getElem? (i := 153) rfl)), Or.inr ⟨rfl, rfl, rfl⟩, by decide +kernel⟩
set_option maxRecDepth 100000 in
theorem jX3_init_16 : ev_jok cfX3_init RX3 cX3_init 5 1 true 16 (7, (.newarray .int, 2, 0, 0, 0), 0, 0, 0) := ⟨ac_int, by decide +kernel⟩
set_option maxRecDepth 100000 in
theorem jX3_init_18 : ev_jok cfX3_init RX3 cX3_init 5 1 true 18 (9, (.putfield 15, 3, 0, 0, 0), 3, 4, 0) := ⟨15, (RX3, TX3, 10), rfl, by decide, (mt_2 (List.mem_of_getElem? (i := 154) rfl)), Or.inr ⟨rfl, rfl, rfl⟩, by decide +kernel⟩
set_option maxRecDepth 100000 in
theorem jX3_init_25 : ev_jok cfX3_init RX3 cX3_init 5 1 true 25 (7, (.newarray .int, 2, 0, 0, 0), 0, 0, 0) := ⟨ac_int, by decide +kernel⟩
set_option maxRecDepth 100000 in
theorem jX3_init_27 : ev_jok cfX3_init RX3 cX3_init 5 1 true 27 (9, (.putfield 18, 3, 0, 0, 0), 3, 5, 0) := ⟨18, (RX3, TX3, 10), rfl, by decide, (mt_2 (List.mem_of_getElem? (i := 155) rfl)), Or.inr ⟨rfl, rfl, rfl⟩, by decide +kernel⟩
set_option maxRecDepth 100000 in
theorem jX3_init_33 : ev_jok cfX3_init RX3 cX3_init 5 1 true 33 (7, (.newarray .int, 2, 0, 0, 0), 0, 0, 0) := ⟨ac_int, by decide +kernel⟩
set_option maxRecDepth 100000 in
theorem jX3_init_35 : ev_jok cfX3_init RX3 cX3_init 5 1 true 35 (9, (.putfield 21, 3, 0, 0, 0), 3, 6, 0) := ⟨21, (RX3, TX3, 10), rfl, by decide, (mt_2 (List.mem_of_getElem? (i := 156) rfl)), Or.inr ⟨rfl, rfl, rfl⟩, by decide +kernel⟩
set_option maxRecDepth 100000 in
theorem jX3_init_42 : ev_jok cfX3_init RX3 cX3_init 5 1 true 42 (7, (.newarray .int, 2, 0, 0, 0), 0, 0, 0) := ⟨ac_int, by decide +kernel⟩
set_option maxRecDepth 100000 in
theorem jX3_init_44 : ev_jok cfX3_init RX3 cX3_init 5 1 true 44 (9, (.putfield 24, 3, 0, 0, 0), 3, 7, 0) := ⟨24, (RX3, TX3, 10), rfl, by decide, (mt_2 (List.mem_of_getElem? (i := 157) rfl)), Or.inr ⟨rfl, rfl, rfl⟩, by decide +kernel⟩
set_option maxRecDepth 100000 in
theorem jX3_init_51 : ev_jok cfX3_init RX3 cX3_init 5 1 true 51 (7, (.newarray .int, 2, 0, 0, 0), 0, 0, 0) := ⟨ac_int, by decide +kernel⟩
set_option maxRecDepth 100000 in
theorem jX3_init_53 : ev_jok cfX3_init RX3 cX3_init 5 1 true 53 (9, (.putfield 27, 3, 0, 0, 0), 3, 8, 0) := ⟨27, (RX3, TX3, 10), rfl, by decide, (mt_2 (List.mem_of_getElem? (i := 158) rfl)), Or.inr ⟨rfl, rfl, rfl⟩, by decide +kernel⟩
set_option maxRecDepth 100000 in
theorem jX3_init_59 : ev_jok cfX3_init RX3 cX3_init 5 1 true 59 (7, (.newarray .int, 2, 0, 0, 0), 0, 0, 0) := ⟨ac_int, by decide +kernel⟩
set_option maxRecDepth 100000 in
theorem jX3_init_61 : ev_jok cfX3_init RX3 cX3_init 5 1 true 61 (9, (.putfield 30, 3, 0, 0, 0), 3, 9, 0) := ⟨30, (RX3, TX3, 10), rfl, by decide, (mt_2 (List.mem_of_getElem? (i := 159) rfl)), Or.inr ⟨rfl, rfl, rfl⟩, by decide +kernel⟩
set_option maxRecDepth 100000 in
theorem jX3_init_66 : ev_jok cfX3_init RX3 cX3_init 5 1 true 66 (9, (.putfield 33, 3, 0, 0, 0), 3, 0, 0) := ⟨33, (RX3, TX3, 10), rfl, by decide, (mt_2 (List.mem_of_getElem? (i := 150) rfl)), Or.inr ⟨rfl, rfl, rfl⟩, by decide +kernel⟩
set_option maxRecDepth 100000 in
theorem jX3_init_71 : ev_jok cfX3_init RX3 cX3_init 5 1 true 71 (9, (.putfield 37, 3, 0, 0, 0), 3, 1, 0) := ⟨37, (RX3, TX3, 10), rfl, by decide, (mt_2 (List.mem_of_getElem? (i := 151) rfl)), Or.inr ⟨rfl, rfl, rfl⟩, by decide +kernel⟩
set_option maxRecDepth 100000 in
theorem jX3_init_76 : ev_jok cfX3_init RX3 cX3_init 5 1 true 76 (9, (.putfield 41, 3, 0, 0, 0), 3, 2, 0) := ⟨41, (RX3, TX3, 10), rfl, by decide, (mt_2 (List.mem_of_getElem? (i := 152) rfl)), Or.inr ⟨rfl, rfl, rfl⟩, by decide +kernel⟩
set_option maxRecDepth 100000 in
theorem jX3_init_86 : ev_jok cfX3_init RX3 cX3_init 5 1 true 86 (3, (.if_icmp .gt 37, 3, 0, 0, 0), 123, 4, 0) := ⟨37, (show decode cX3_init 86 = .ok (.if_icmp .gt 37, 3) by decide +kernel), by decide⟩
set_option maxRecDepth 100000 in
theorem jX3_init_113 : ev_jok cfX3_init RX3 cX3_init 5 1 true 113 (10, (.invokestatic 45, 3, 0, 0, 0), 0, 2, 1) := ⟨45, yX3_leastBeside, cX3_leastBeside, 3, (some .int), 0, YX3_leastBeside, (Or.inl (mt_2 (List.mem_of_getElem? (i := 147) rfl))), by decide, fun _ _ => rfl, by decide +kernel, fun vs S D v S2 D2 h => mwX3_leastBeside h⟩
set_option maxRecDepth 100000 in
theorem jX3_init_120 : ev_jok cfX3_init RX3 cX3_init 5 1 true 120 (1, (.goto (-38), 3, 0, 0, 0), 82, 0, 0) := ⟨(-38), by decide +kernel, by decide⟩
set_option maxRecDepth 100000 in
theorem jX3_init_123 : ev_jok cfX3_init RX3 cX3_init 5 1 true 123 (4, (.return_, 1, 0, 0, 0), 0, 0, 0) := (show decode cX3_init 123 = .ok (.return_, 1) by decide +kernel)
set_option maxRecDepth 100000 in
theorem jnX3_init : ∀ e ∈ tnX3_init, ev_jok cfX3_init RX3 cX3_init 5 1 true e.1 e.2 := List.forall_mem_cons.mpr ⟨jX3_init_1, List.forall_mem_cons.mpr ⟨jX3_init_7, List.forall_mem_cons.mpr ⟨jX3_init_9, List.forall_mem_cons.mpr ⟨jX3_init_16, List.forall_mem_cons.mpr ⟨jX3_init_18, List.forall_mem_cons.mpr ⟨jX3_init_25, List.forall_mem_cons.mpr ⟨jX3_init_27, List.forall_mem_cons.mpr ⟨jX3_init_33, List.forall_mem_cons.mpr ⟨jX3_init_35, List.forall_mem_cons.mpr ⟨jX3_init_42, List.forall_mem_cons.mpr ⟨jX3_init_44, List.forall_mem_cons.mpr ⟨jX3_init_51, List.forall_mem_cons.mpr ⟨jX3_init_53, List.forall_mem_cons.mpr ⟨jX3_init_59, List.forall_mem_cons.mpr ⟨jX3_init_61, List.forall_mem_cons.mpr ⟨jX3_init_66, List.forall_mem_cons.mpr ⟨jX3_init_71, List.forall_mem_cons.mpr ⟨jX3_init_76, List.forall_mem_cons.mpr ⟨jX3_init_86, List.forall_mem_cons.mpr ⟨jX3_init_113, List.forall_mem_cons.mpr ⟨jX3_init_120, List.forall_mem_cons.mpr ⟨jX3_init_123, fun _ h => absurd h List.not_mem_nil⟩⟩⟩⟩⟩⟩⟩⟩⟩⟩⟩⟩⟩⟩⟩⟩⟩⟩⟩⟩⟩⟩
set_option maxRecDepth 100000 in
theorem pkX3_init_0 : tbX3_init_0.all (ev_pk cX3_init lk_RX3 5) = true := by decide +kernel
set_option maxRecDepth 100000 in
theorem pkX3_init_1 : tbX3_init_1.all (ev_pk cX3_init lk_RX3 5) = true := by decide +kernel
set_option maxRecDepth 100000 in
theorem pkX3_init_2 : tbX3_init_2.all (ev_pk cX3_init lk_RX3 5) = true := by decide +kernel
set_option maxRecDepth 100000 in
theorem jtX3_init : ∀ e ∈ tbX3_init, ev_jok cfX3_init RX3 cX3_init 5 1 true e.1 e.2 := ev_tball (lk := lk_RX3) lkok_RX3 (ev_all2 pkX3_init_0 (ev_all2 pkX3_init_1 pkX3_init_2)) rfl jnX3_init
set_option maxRecDepth 100000 in
theorem mgX3_init {vs : List Value} {S : ev_S} {D : ev_D} {v : Int32} {S2 : ev_S} {D2 : ev_D} (h : gX3_init vs S D = some (v, S2, D2)) : ev_M 1 (sC S2) (sA S2) yX3_init cX3_init 5 none vs S D S2 (v, D2) := by
  unfold gX3_init at h
  obtain ⟨h1, h2, h3⟩ := ev_bif h
  exact ev_met (ini := true) (plainFor_of_name (by decide)) (fun _ => rfl) h1 (of_decide_eq_true h2) (fun F hR => ev_run_ok hR (Or.inl rfl) jtX3_init (ev_no5 (by decide +kernel)) 4000 0 _ [] (ev_z S) D h3)
def tbX11_init_0 : List (Nat × ev_Jn) := [(0, (0, (.aload_n 0, 1, 0, 0, 0), 0, 0, 0)), (1, (12, (.invokespecial 1, 3, 0, 0, 0), 0, 0, 0)), (4, (0, (.aload_n 0, 1, 0, 0, 0), 0, 0, 0)), (5, (6, (.new 7, 3, 0, 0, 0), 10, 4, 0)), (8, (0, (.dup, 1, 0, 0, 0), 0, 0, 0)), (9, (11, (.invokespecial 9, 3, 0, 0, 0), 0, 0, 0)), (12, (9, (.putfield 10, 3, 0, 0, 0), 11, 0, 0)), (15, (0, (.aload_n 0, 1, 0, 0, 0), 0, 0, 0)), (16, (6, (.new 16, 3, 0, 0, 0), 2, 4, 0)), (19, (0, (.dup, 1, 0, 0, 0), 0, 0, 0)), (20, (11, (.invokespecial 18, 3, 0, 0, 0), 1, 0, 0)), (23, (9, (.putfield 19, 3, 0, 0, 0), 11, 1, 0)), (26, (0, (.aload_n 0, 1, 0, 0, 0), 0, 0, 0)), (27, (6, (.new 23, 3, 0, 0, 0), 4, 12, 0)), (30, (0, (.dup, 1, 0, 0, 0), 0, 0, 0)), (31, (11, (.invokespecial 25, 3, 0, 0, 0), 2, 0, 0)), (34, (9, (.putfield 26, 3, 0, 0, 0), 11, 2, 0)), (37, (0, (.aload_n 0, 1, 0, 0, 0), 0, 0, 0)), (38, (6, (.new 30, 3, 0, 0, 0), 5, 4, 0)), (41, (0, (.dup, 1, 0, 0, 0), 0, 0, 0)), (42, (0, (.aload_n 0, 1, 0, 0, 0), 0, 0, 0)), (43, (0, (.getfield 10, 3, 11, 0, 0), 0, 0, 0)), (46, (0, (.getfield 32, 3, 10, 0, 0), 0, 0, 0)), (49, (0, (.aload_n 0, 1, 0, 0, 0), 0, 0, 0)), (50, (0, (.getfield 10, 3, 11, 0, 0), 0, 0, 0)), (53, (0, (.getfield 36, 3, 10, 1, 0), 0, 0, 0)), (56, (0, (.aload_n 0, 1, 0, 0, 0), 0, 0, 0)), (57, (0, (.getfield 10, 3, 11, 0, 0), 0, 0, 0)), (60, (0, (.getfield 40, 3, 10, 2, 0), 0, 0, 0)), (63, (11, (.invokespecial 44, 3, 0, 0, 0), 3, 3, 0))]
def tbX11_init_1 : List (Nat × ev_Jn) := [(66, (9, (.putfield 47, 3, 0, 0, 0), 11, 3, 0)), (69, (0, (.aload_n 0, 1, 0, 0, 0), 0, 0, 0)), (70, (6, (.new 30, 3, 0, 0, 0), 5, 4, 0)), (73, (0, (.dup, 1, 0, 0, 0), 0, 0, 0)), (74, (6, (.new 51, 3, 0, 0, 0), 9, 14, 0)), (77, (0, (.dup, 1, 0, 0, 0), 0, 0, 0)), (78, (11, (.invokespecial 53, 3, 0, 0, 0), 4, 0, 0)), (81, (6, (.new 54, 3, 0, 0, 0), 0, 3, 0)), (84, (0, (.dup, 1, 0, 0, 0), 0, 0, 0)), (85, (0, (.iconst 0, 1, 0, 0, 0), 0, 0, 0)), (86, (11, (.invokespecial 56, 3, 0, 0, 0), 5, 1, 0)), (89, (0, (.aload_n 0, 1, 0, 0, 0), 0, 0, 0)), (90, (0, (.getfield 10, 3, 11, 0, 0), 0, 0, 0)), (93, (0, (.getfield 40, 3, 10, 2, 0), 0, 0, 0)), (96, (11, (.invokespecial 44, 3, 0, 0, 0), 3, 3, 0)), (99, (9, (.putfield 59, 3, 0, 0, 0), 11, 4, 0)), (102, (0, (.aload_n 0, 1, 0, 0, 0), 0, 0, 0)), (103, (6, (.new 62, 3, 0, 0, 0), 3, 10, 0)), (106, (0, (.dup, 1, 0, 0, 0), 0, 0, 0)), (107, (0, (.aload_n 0, 1, 0, 0, 0), 0, 0, 0)), (108, (0, (.getfield 10, 3, 11, 0, 0), 0, 0, 0)), (111, (0, (.getfield 32, 3, 10, 0, 0), 0, 0, 0)), (114, (0, (.aload_n 0, 1, 0, 0, 0), 0, 0, 0)), (115, (0, (.getfield 10, 3, 11, 0, 0), 0, 0, 0)), (118, (0, (.getfield 40, 3, 10, 2, 0), 0, 0, 0)), (121, (0, (.aload_n 0, 1, 0, 0, 0), 0, 0, 0)), (122, (0, (.getfield 10, 3, 11, 0, 0), 0, 0, 0)), (125, (0, (.getfield 64, 3, 10, 3, 0), 0, 0, 0)), (128, (11, (.invokespecial 68, 3, 0, 0, 0), 6, 3, 0)), (131, (9, (.putfield 71, 3, 0, 0, 0), 11, 5, 0))]
def tbX11_init_2 : List (Nat × ev_Jn) := [(134, (0, (.aload_n 0, 1, 0, 0, 0), 0, 0, 0)), (135, (16, (.aconst_null, 1, 0, 0, 0), 0, 0, 0)), (136, (9, (.putfield 75, 3, 0, 0, 0), 11, 6, 0)), (139, (4, (.return_, 1, 0, 0, 0), 0, 0, 0))]
def tbX11_init : List (Nat × ev_Jn) := tbX11_init_0 ++ (tbX11_init_1 ++ (tbX11_init_2))
def cfX11_init : ev_Cf := fun k vs S D => match k with
  | 0 => gX10_init vs S D
  | 1 => gX2_init vs S D
  | 2 => gX4_init vs S D
  | 3 => gX5_init vs S D
  | 4 => gX9_init vs S D
  | 5 => gX0_init vs S D
  | 6 => gX3_init vs S D
  | _ => none
def gX11_init (vs : List Value) (S : ev_S) (D : ev_D) : Option ev_Rs := bif vs.all ev_plain && decide (vs.length ≤ 1) then ev_run tbX11_init cfX11_init 4000 0 (vs.map some ++ List.replicate (1 - vs.length) none) [] (ev_z S) D else none
def tnX11_init : List (Nat × ev_Jn) := [(1, (12, (.invokespecial 1, 3, 0, 0, 0), 0, 0, 0)), (5, (6, (.new 7, 3, 0, 0, 0), 10, 4, 0)), (9, (11, (.invokespecial 9, 3, 0, 0, 0), 0, 0, 0)), (12, (9, (.putfield 10, 3, 0, 0, 0), 11, 0, 0)), (16, (6, (.new 16, 3, 0, 0, 0), 2, 4, 0)), (20, (11, (.invokespecial 18, 3, 0, 0, 0), 1, 0, 0)), (23, (9, (.putfield 19, 3, 0, 0, 0), 11, 1, 0)), (27, (6, (.new 23, 3, 0, 0, 0), 4, 12, 0)), (31, (11, (.invokespecial 25, 3, 0, 0, 0), 2, 0, 0)), (34, (9, (.putfield 26, 3, 0, 0, 0), 11, 2, 0)), (38, (6, (.new 30, 3, 0, 0, 0), 5, 4, 0)), (63, (11, (.invokespecial 44, 3, 0, 0, 0), 3, 3, 0)), (66, (9, (.putfield 47, 3, 0, 0, 0), 11, 3, 0)), (70, (6, (.new 30, 3, 0, 0, 0), 5, 4, 0)), (74, (6, (.new 51, 3, 0, 0, 0), 9, 14, 0)), (78, (11, (.invokespecial 53, 3, 0, 0, 0), 4, 0, 0)), (81, (6, (.new 54, 3, 0, 0, 0), 0, 3, 0)), (86, (11, (.invokespecial 56, 3, 0, 0, 0), 5, 1, 0)), (96, (11, (.invokespecial 44, 3, 0, 0, 0), 3, 3, 0)), (99, (9, (.putfield 59, 3, 0, 0, 0), 11, 4, 0)), (103, (6, (.new 62, 3, 0, 0, 0), 3, 10, 0)), (128, (11, (.invokespecial 68, 3, 0, 0, 0), 6, 3, 0)), (131, (9, (.putfield 71, 3, 0, 0, 0), 11, 5, 0)), (135, (16, (.aconst_null, 1, 0, 0, 0), 0, 0, 0)), (136, (9, (.putfield 75, 3, 0, 0, 0), 11, 6, 0)), (139, (4, (.return_, 1, 0, 0, 0), 0, 0, 0))]
set_option maxRecDepth 100000 in
theorem jX11_init_1 : ev_jok cfX11_init RX11 cX11_init 1 4 true 1 (12, (.invokespecial 1, 3, 0, 0, 0), 0, 0, 0) := ⟨1, (mt_1 (List.mem_of_getElem? (i := 28) rfl)), ac_oi, ac_oc, by decide, by decide +kernel⟩
set_option maxRecDepth 100000 in
theorem jX11_init_5 : ev_jok cfX11_init RX11 cX11_init 1 4 true 5 (6, (.new 7, 3, 0, 0, 0), 10, 4, 0) := ⟨7, (RX10, TX10, 4), rfl, rfl, (mt_1 (List.mem_of_getElem? (i := 31) rfl)), (mt_1 (List.mem_of_getElem? (i := 32) rfl)), (mt_1 (List.mem_of_getElem? (i := 2) rfl)), by decide +kernel⟩
set_option maxRecDepth 100000 in
theorem jX11_init_9 : ev_jok cfX11_init RX11 cX11_init 1 4 true 9 (11, (.invokespecial 9, 3, 0, 0, 0), 0, 0, 0) := ⟨9, yX10_init, cX10_init, 1, 3, YcX10_init, (Or.inr ⟨"DeafBells", (mt_1 (List.mem_of_getElem? (i := 33) rfl))⟩), by decide, by decide +kernel, fun vs S D v S2 D2 h => mgX10_init h⟩
set_option maxRecDepth 100000 in
theorem jX11_init_12 : ev_jok cfX11_init RX11 cX11_init 1 4 true 12 (9, (.putfield 10, 3, 0, 0, 0), 11, 0, 0) := ⟨10, (RX11, TX11, 7), rfl, by decide, (mt_2 (List.mem_of_getElem? (i := 181) rfl)), Or.inr ⟨rfl, rfl, rfl⟩, by decide +kernel⟩
set_option maxRecDepth 100000 in
theorem jX11_init_16 : ev_jok cfX11_init RX11 cX11_init 1 4 true 16 (6, (.new 16, 3, 0, 0, 0), 2, 4, 0) := ⟨16, (RX2, TX2, 4), rfl, rfl, (mt_2 (List.mem_of_getElem? (i := 45) rfl)), (mt_2 (List.mem_of_getElem? (i := 46) rfl)), (mt_1 (List.mem_of_getElem? (i := 11) rfl)), by decide +kernel⟩
set_option maxRecDepth 100000 in
theorem jX11_init_20 : ev_jok cfX11_init RX11 cX11_init 1 4 true 20 (11, (.invokespecial 18, 3, 0, 0, 0), 1, 0, 0) := ⟨18, yX2_init, cX2_init, 2, 2, YcX2_init, (Or.inl (mt_2 (List.mem_of_getElem? (i := 47) rfl))), by decide, by decide +kernel, fun vs S D v S2 D2 h => mgX2_init h⟩
set_option maxRecDepth 100000 in
theorem jX11_init_23 : ev_jok cfX11_init RX11 cX11_init 1 4 true 23 (9, (.putfield 19, 3, 0, 0, 0), 11, 1, 0) := ⟨19, (RX11, TX11, 7), rfl, by decide, (mt_2 (List.mem_of_getElem? (i := 182) rfl)), Or.inr ⟨rfl, rfl, rfl⟩, by decide +kernel⟩
set_option maxRecDepth 100000 in
theorem jX11_init_27 : ev_jok cfX11_init RX11 cX11_init 1 4 true 27 (6, (.new 23, 3, 0, 0, 0), 4, 12, 0) := ⟨23, (RX4, TX4, 12), rfl, rfl, (mt_2 (List.mem_of_getElem? (i := 68) rfl)), (mt_2 (List.mem_of_getElem? (i := 69) rfl)), (mt_1 (List.mem_of_getElem? (i := 12) rfl)), by decide +kernel⟩
set_option maxRecDepth 100000 in
theorem jX11_init_31 : ev_jok cfX11_init RX11 cX11_init 1 4 true 31 (11, (.invokespecial 25, 3, 0, 0, 0), 2, 0, 0) := ⟨25, yX4_init, cX4_init, 1, 3, YcX4_init, (Or.inr ⟨"DeafBells", (mt_2 (List.mem_of_getElem? (i := 70) rfl))⟩), by decide, by decide +kernel, fun vs S D v S2 D2 h => mgX4_init h⟩
set_option maxRecDepth 100000 in
theorem jX11_init_34 : ev_jok cfX11_init RX11 cX11_init 1 4 true 34 (9, (.putfield 26, 3, 0, 0, 0), 11, 2, 0) := ⟨26, (RX11, TX11, 7), rfl, by decide, (mt_2 (List.mem_of_getElem? (i := 183) rfl)), Or.inr ⟨rfl, rfl, rfl⟩, by decide +kernel⟩
set_option maxRecDepth 100000 in
theorem jX11_init_38 : ev_jok cfX11_init RX11 cX11_init 1 4 true 38 (6, (.new 30, 3, 0, 0, 0), 5, 4, 0) := ⟨30, (RX5, TX5, 4), rfl, rfl, (mt_2 (List.mem_of_getElem? (i := 117) rfl)), (mt_2 (List.mem_of_getElem? (i := 118) rfl)), (mt_1 (List.mem_of_getElem? (i := 13) rfl)), by decide +kernel⟩
set_option maxRecDepth 100000 in
theorem jX11_init_63 : ev_jok cfX11_init RX11 cX11_init 1 4 true 63 (11, (.invokespecial 44, 3, 0, 0, 0), 3, 3, 0) := ⟨44, yX5_init, cX5_init, 4, 1, YcX5_init, (Or.inl (mt_2 (List.mem_of_getElem? (i := 119) rfl))), by decide, by decide +kernel, fun vs S D v S2 D2 h => mgX5_init h⟩
set_option maxRecDepth 100000 in
theorem jX11_init_66 : ev_jok cfX11_init RX11 cX11_init 1 4 true 66 (9, (.putfield 47, 3, 0, 0, 0), 11, 3, 0) := ⟨47, (RX11, TX11, 7), rfl, by decide, (mt_2 (List.mem_of_getElem? (i := 184) rfl)), Or.inr ⟨rfl, rfl, rfl⟩, by decide +kernel⟩
set_option maxRecDepth 100000 in
theorem jX11_init_70 : ev_jok cfX11_init RX11 cX11_init 1 4 true 70 (6, (.new 30, 3, 0, 0, 0), 5, 4, 0) := ⟨30, (RX5, TX5, 4), rfl, rfl, (mt_2 (List.mem_of_getElem? (i := 117) rfl)), (mt_2 (List.mem_of_getElem? (i := 118) rfl)), (mt_1 (List.mem_of_getElem? (i := 13) rfl)), by decide +kernel⟩
set_option maxRecDepth 100000 in
theorem jX11_init_74 : ev_jok cfX11_init RX11 cX11_init 1 4 true 74 (6, (.new 51, 3, 0, 0, 0), 9, 14, 0) := ⟨51, (RX9, TX9, 14), rfl, rfl, (mt_2 (List.mem_of_getElem? (i := 137) rfl)), (mt_1 (List.mem_of_getElem? (i := 38) rfl)), (mt_1 (List.mem_of_getElem? (i := 3) rfl)), by decide +kernel⟩
set_option maxRecDepth 100000 in
theorem jX11_init_78 : ev_jok cfX11_init RX11 cX11_init 1 4 true 78 (11, (.invokespecial 53, 3, 0, 0, 0), 4, 0, 0) := ⟨53, yX9_init, cX9_init, 1, 1, YcX9_init, (Or.inl (mt_2 (List.mem_of_getElem? (i := 138) rfl))), by decide, by decide +kernel, fun vs S D v S2 D2 h => mgX9_init h⟩
set_option maxRecDepth 100000 in
theorem jX11_init_81 : ev_jok cfX11_init RX11 cX11_init 1 4 true 81 (6, (.new 54, 3, 0, 0, 0), 0, 3, 0) := ⟨54, (RX0, TX0, 3), rfl, rfl, (mt_2 (List.mem_of_getElem? (i := 139) rfl)), (mt_1 (List.mem_of_getElem? (i := 122) rfl)), (mt_1 (List.mem_of_getElem? (i := 5) rfl)), by decide +kernel⟩
set_option maxRecDepth 100000 in
theorem jX11_init_86 : ev_jok cfX11_init RX11 cX11_init 1 4 true 86 (11, (.invokespecial 56, 3, 0, 0, 0), 5, 1, 0) := ⟨56, yX0_init, cX0_init, 2, 1, YcX0_init, (Or.inl (mt_2 (List.mem_of_getElem? (i := 140) rfl))), by decide, by decide +kernel, fun vs S D v S2 D2 h => mgX0_init h⟩
set_option maxRecDepth 100000 in
theorem jX11_init_96 : ev_jok cfX11_init RX11 cX11_init 1 4 true 96 (11, (.invokespecial 44, 3, 0, 0, 0), 3, 3, 0) := ⟨44, yX5_init, cX5_init, 4, 1, YcX5_init, (Or.inl (mt_2 (List.mem_of_getElem? (i := 119) rfl))), by decide, by decide +kernel, fun vs S D v S2 D2 h => mgX5_init h⟩
set_option maxRecDepth 100000 in
theorem jX11_init_99 : ev_jok cfX11_init RX11 cX11_init 1 4 true 99 (9, (.putfield 59, 3, 0, 0, 0), 11, 4, 0) := ⟨59, (RX11, TX11, 7), rfl, by decide, (mt_2 (List.mem_of_getElem? (i := 185) rfl)), Or.inr ⟨rfl, rfl, rfl⟩, by decide +kernel⟩
set_option maxRecDepth 100000 in
theorem jX11_init_103 : ev_jok cfX11_init RX11 cX11_init 1 4 true 103 (6, (.new 62, 3, 0, 0, 0), 3, 10, 0) := ⟨62, (RX3, TX3, 10), rfl, rfl, (mt_2 (List.mem_of_getElem? (i := 141) rfl)), (mt_2 (List.mem_of_getElem? (i := 142) rfl)), (mt_1 (List.mem_of_getElem? (i := 14) rfl)), by decide +kernel⟩
set_option maxRecDepth 100000 in
theorem jX11_init_128 : ev_jok cfX11_init RX11 cX11_init 1 4 true 128 (11, (.invokespecial 68, 3, 0, 0, 0), 6, 3, 0) := ⟨68, yX3_init, cX3_init, 5, 1, YcX3_init, (Or.inl (mt_2 (List.mem_of_getElem? (i := 143) rfl))), by decide, by decide +kernel, fun vs S D v S2 D2 h => mgX3_init h⟩
set_option maxRecDepth 100000 in
theorem jX11_init_131 : ev_jok cfX11_init RX11 cX11_init 1 4 true 131 (9, (.putfield 71, 3, 0, 0, 0), 11, 5, 0) := ⟨71, (RX11, TX11, 7), rfl, by decide, (mt_2 (List.mem_of_getElem? (i := 186) rfl)), Or.inr ⟨rfl, rfl, rfl⟩, by decide +kernel⟩
set_option maxRecDepth 100000 in
theorem jX11_init_135 : ev_jok cfX11_init RX11 cX11_init 1 4 true 135 (16, (.aconst_null, 1, 0, 0, 0), 0, 0, 0) := (show decode cX11_init 135 = .ok (.aconst_null, 1) by decide +kernel)
set_option maxRecDepth 100000 in
theorem jX11_init_136 : ev_jok cfX11_init RX11 cX11_init 1 4 true 136 (9, (.putfield 75, 3, 0, 0, 0), 11, 6, 0) := ⟨75, (RX11, TX11, 7), rfl, by decide, (mt_2 (List.mem_of_getElem? (i := 187) rfl)), Or.inl rfl, by decide +kernel⟩
set_option maxRecDepth 100000 in
theorem jX11_init_139 : ev_jok cfX11_init RX11 cX11_init 1 4 true 139 (4, (.return_, 1, 0, 0, 0), 0, 0, 0) := (show decode cX11_init 139 = .ok (.return_, 1) by decide +kernel)
set_option maxRecDepth 100000 in
theorem jnX11_init : ∀ e ∈ tnX11_init, ev_jok cfX11_init RX11 cX11_init 1 4 true e.1 e.2 := List.forall_mem_cons.mpr ⟨jX11_init_1, List.forall_mem_cons.mpr ⟨jX11_init_5, List.forall_mem_cons.mpr ⟨jX11_init_9, List.forall_mem_cons.mpr ⟨jX11_init_12, List.forall_mem_cons.mpr ⟨jX11_init_16, List.forall_mem_cons.mpr ⟨jX11_init_20, List.forall_mem_cons.mpr ⟨jX11_init_23, List.forall_mem_cons.mpr ⟨jX11_init_27, List.forall_mem_cons.mpr ⟨jX11_init_31, List.forall_mem_cons.mpr ⟨jX11_init_34, List.forall_mem_cons.mpr ⟨jX11_init_38, List.forall_mem_cons.mpr ⟨jX11_init_63, List.forall_mem_cons.mpr ⟨jX11_init_66, List.forall_mem_cons.mpr ⟨jX11_init_70, List.forall_mem_cons.mpr ⟨jX11_init_74, List.forall_mem_cons.mpr ⟨jX11_init_78, List.forall_mem_cons.mpr ⟨jX11_init_81, List.forall_mem_cons.mpr ⟨jX11_init_86, List.forall_mem_cons.mpr ⟨jX11_init_96, List.forall_mem_cons.mpr ⟨jX11_init_99, List.forall_mem_cons.mpr ⟨jX11_init_103, List.forall_mem_cons.mpr ⟨jX11_init_128, List.forall_mem_cons.mpr ⟨jX11_init_131, List.forall_mem_cons.mpr ⟨jX11_init_135, List.forall_mem_cons.mpr ⟨jX11_init_136, List.forall_mem_cons.mpr ⟨jX11_init_139, fun _ h => absurd h List.not_mem_nil⟩⟩⟩⟩⟩⟩⟩⟩⟩⟩⟩⟩⟩⟩⟩⟩⟩⟩⟩⟩⟩⟩⟩⟩⟩⟩
set_option maxRecDepth 100000 in
theorem pkX11_init_0 : tbX11_init_0.all (ev_pk cX11_init lk_RX11 1) = true := by decide +kernel
set_option maxRecDepth 100000 in
theorem pkX11_init_1 : tbX11_init_1.all (ev_pk cX11_init lk_RX11 1) = true := by decide +kernel
set_option maxRecDepth 100000 in
theorem pkX11_init_2 : tbX11_init_2.all (ev_pk cX11_init lk_RX11 1) = true := by decide +kernel
set_option maxRecDepth 100000 in
theorem jtX11_init : ∀ e ∈ tbX11_init, ev_jok cfX11_init RX11 cX11_init 1 4 true e.1 e.2 := ev_tball (lk := lk_RX11) lkok_RX11 (ev_all2 pkX11_init_0 (ev_all2 pkX11_init_1 pkX11_init_2)) rfl jnX11_init
set_option maxRecDepth 100000 in
theorem mgX11_init {vs : List Value} {S : ev_S} {D : ev_D} {v : Int32} {S2 : ev_S} {D2 : ev_D} (h : gX11_init vs S D = some (v, S2, D2)) : ev_M 4 (sC S2) (sA S2) yX11_init cX11_init 1 none vs S D S2 (v, D2) := by
  unfold gX11_init at h
  obtain ⟨h1, h2, h3⟩ := ev_bif h
  exact ev_met (ini := true) (plainFor_of_name (by decide)) (fun _ => rfl) h1 (of_decide_eq_true h2) (fun F hR => ev_run_ok hR (Or.inl rfl) jtX11_init (ev_no5 (by decide +kernel)) 4000 0 _ [] (ev_z S) D h3)
