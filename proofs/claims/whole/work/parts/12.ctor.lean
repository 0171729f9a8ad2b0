/-! ===== constructors, by the interpreter ===== -/
theorem ev_bif {a : Bool} {c : Bool} {x : Option ev_Rs} {r : ev_Rs} (h : (bif a && c then x else none) = some r) : a = true ∧ c = true ∧ x = some r := by
  cases a <;> cases c <;> first | exact ⟨rfl, rfl, h⟩ | cases h
theorem ev_tball {cf : ev_Cf} {own : String} {cc : ByteArray} {nL d : Nat} {ini : Bool} {tb tn : List (Nat × ev_Jn)} {lk : ev_LK} (hlk : ev_lkok own lk) (h0 : tb.all (fun e => !(e.2.1 == 0) || (decide (decode cc e.1 = .ok (e.2.2.1.1, e.2.2.1.2.1)) && ev_ok1 lk nL e.2.2.1)) = true) (h1 : tb.all (fun e => (e.2.1 == 0) || decide (e ∈ tn)) = true) (hn : ∀ e ∈ tn, ev_jok cf own cc nL d ini e.1 e.2) : ∀ e ∈ tb, ev_jok cf own cc nL d ini e.1 e.2 := by
  intro e he
  have a0 := List.all_eq_true.mp h0 e he
  have a1 := List.all_eq_true.mp h1 e he
  by_cases ht : e.2.1 = 0
  · rw [ht] at a0
    simp only [beq_self_eq_true, Bool.not_true, Bool.false_or, Bool.and_eq_true, decide_eq_true_eq] at a0
    obtain ⟨pc, tag, it, a, b, c⟩ := e
    dsimp only at ht
    subst ht
    exact ⟨lk, hlk, a0.1, a0.2⟩
  · simp only [Bool.or_eq_true, beq_iff_eq, ht, false_or, decide_eq_true_eq] at a1
    exact hn e a1
theorem ev_no5 {tb : List (Nat × ev_Jn)} (h : tb.all (fun e => !(e.2.1 == 5)) = true) : ∀ e ∈ tb, (e.2.1 = 4 → (none : Option FieldType) = none) ∧ (e.2.1 = 5 → (none : Option FieldType) = some .boolean) := by
  intro e he
  have a := List.all_eq_true.mp h e he
  refine ⟨fun _ => rfl, fun z => ?_⟩
  rw [z] at a
  cases a

theorem ac_int : Cond.arrayClass .int ∈ lw_tbl := (mt_1 (List.mem_of_getElem? (i := 120) rfl))
theorem ac_tow : Cond.arrayOver (.object "DeafBells$Tower") ∈ lw_tbl := (mt_2 (List.mem_of_getElem? (i := 52) rfl))
theorem ac_oi : Cond.instanceMethod Lib.objectInit ∈ lw_tbl := (mt_1 (List.mem_of_getElem? (i := 29) rfl))
theorem ac_oc : Cond.code Lib.objectInit ⟨#[0xb1]⟩ 1 none ∈ lw_tbl := (mt_1 (List.mem_of_getElem? (i := 30) rfl))
set_option maxHeartbeats 4000000 in
set_option maxRecDepth 100000 in
theorem uJ7_fill_5 {S : ev_S} {fu : Nat} {r : Int32 × ev_D} {F : ev_Fr} (hR : ev_R RJ7 cJ7_fill_53178 4 0 0 0 false none S r F) (hC : sC S ≤ 0 ∧ sA S ≤ 0) : ∀ (n : Nat) (l0 : Nat) (l1 : Int32) (l2 : Int32) (l3 : Int32) (D : ev_D), sK S l0 = 1 → fJ7_fill_5 (sL S) (sE S) fu n l0 l1 l2 l3 D = some r → F S D 5 [some (.ref l0), some (.int l1), some (.int l2), some (.int l3)] [] := by
  have hX := hR.X
  intro n
  induction n with
  | zero =>
    intro l0 l1 l2 l3 D hl0 hf
    rw [fJ7_fill_5] at hf
    cases hf
  | succ n ih =>
    intro l0 l1 l2 l3 D hl0 hf
    rw [fJ7_fill_5] at hf
    refine ev_blk hX lkok_RJ7 [(.iload_n 2, 1, 0, 0, 0), (.iload_n 3, 1, 0, 0, 0)] (by decide +kernel) (g := true) (lv' := [some (.ref l0), some (.int l1), some (.int l2), some (.int l3)]) (st' := [.int l3, .int l2]) (D' := D) (pc' := 7) rfl (rfl) rfl ?_
    refine ev_ic_ge hX (off := 13) 20 (by decide +kernel) (by decide) (fun h1 => ?_) (fun h1 => ?_)
    · have hf := ev_it h1 hf
      exact ev_vret hR ev_sm.rf (Option.some.inj hf) hC (by decide +kernel)
    · have hf := ev_nf h1 hf
      obtain ⟨hg2, hf⟩ := ev_gd_s hf
      refine ev_blk hX lkok_RJ7 [(.aload_n 0, 1, 0, 0, 0), (.iload_n 2, 1, 0, 0, 0), (.iload_n 1, 1, 0, 0, 0), (.iastore, 1, 0, 0, 0), (.iinc 2 1, 3, 0, 0, 1)] (by decide +kernel) (g := (sK S l0 == 1 && ev_in l2 ((sL S) l0)) && (true)) (lv' := [some (.ref l0), some (.int l1), some (.int (l2 + (1 : Int32))), some (.int l3)]) (st' := []) (D' := (ev_up D l0 (l2).toNatClampNeg l1)) (pc' := 17) rfl (ev_gi hl0 hg2 (rfl)) rfl ?_
      refine ev_goto hX (off := (-12)) 5 (by decide +kernel) (by decide) ?_
      exact ev_weak hX (ev_le_eq (ev_le_eq (ev_le_eq (ev_le_eq ev_le_nil)))) (ih _ _ _ _ _ hl0 hf)
set_option maxHeartbeats 4000000 in
set_option maxRecDepth 100000 in
theorem uJ7_fill {S : ev_S} {fu : Nat} {r : Int32 × ev_D} {F : ev_Fr} (hR : ev_R RJ7 cJ7_fill_53178 4 0 0 0 false none S r F) (hC : sC S ≤ 0 ∧ sA S ≤ 0) {l0 : Nat} {l1 : Int32} {D : ev_D} (hl0 : sK S l0 = 1) (hf : fJ7_fill (sL S) (sE S) fu l0 l1 D = some r) : F S D 0 [some (.ref l0), some (.int l1), none, none] [] := by
  have hX := hR.X
  unfold fJ7_fill at hf
  refine ev_blk hX lkok_RJ7 [(.iconst 0, 1, 0, 0, 0), (.istore_n 2, 1, 0, 0, 0), (.aload_n 0, 1, 0, 0, 0), (.arraylength, 1, 0, 0, 0), (.istore_n 3, 1, 0, 0, 0)] (by decide +kernel) (g := (sK S l0 == 1) && (true)) (lv' := [some (.ref l0), some (.int l1), some (.int (0 : Int32)), some (.int (Int32.ofNat ((sL S) l0)))]) (st' := []) (D' := D) (pc' := 5) rfl (ev_gk hl0 (rfl)) rfl ?_
  exact ev_weak hX (ev_le_eq (ev_le_eq (ev_le_eq (ev_le_eq ev_le_nil)))) (uJ7_fill_5 hR hC   fu _ _ _ _ _ hl0 hf)
theorem nJ7_fill {S : ev_S} {fu : Nat} {r : Int32 × ev_D} {l0 : Nat} {l1 : Int32} {D : ev_D} (hl0 : sK S l0 = 1) (hf : fJ7_fill (sL S) (sE S) fu l0 l1 D = some r) : ev_M 0 0 0 yJ7_fill_53178 cJ7_fill_53178 4 none [.ref l0, .int l1] S D S r :=
  ev_met (ini := false) (plainFor_of_name (by decide)) (fun h => by cases h) rfl (Nat.le_of_ble_eq_true rfl) (fun F hR => uJ7_fill (S := ev_z S) hR ⟨Nat.le_refl 0, Nat.le_refl 0⟩ hl0 hf)
set_option maxHeartbeats 4000000 in
set_option maxRecDepth 100000 in
theorem uJ9_max {S : ev_S} {fu : Nat} {r : Int32 × ev_D} {F : ev_Fr} (hR : ev_R RJ9 cJ9_max_7cf53 2 0 0 0 false (some .int) S r F) (hC : sC S ≤ 0 ∧ sA S ≤ 0) {l0 : Int32} {l1 : Int32} {D : ev_D}  (hf : fJ9_max (sL S) (sE S) fu l0 l1 D = some r) : F S D 0 [some (.int l0), some (.int l1)] [] := by
  have hX := hR.X
  unfold fJ9_max at hf
  refine ev_blk hX lkok_RJ9 [(.iload_n 0, 1, 0, 0, 0), (.iload_n 1, 1, 0, 0, 0)] (by decide +kernel) (g := true) (lv' := [some (.int l0), some (.int l1)]) (st' := [.int l1, .int l0]) (D' := D) (pc' := 2) rfl (rfl) rfl ?_
  refine ev_ic_lt hX (off := 7) 9 (by decide +kernel) (by decide) (fun h1 => ?_) (fun h1 => ?_)
  · have hf := ev_it h1 hf
    refine ev_blk hX lkok_RJ9 [(.iload_n 1, 1, 0, 0, 0)] (by decide +kernel) (g := true) (lv' := [some (.int l0), some (.int l1)]) (st' := [.int l1]) (D' := D) (pc' := 10) rfl (rfl) rfl ?_
    exact ev_iret hR ev_sm.rf (Option.some.inj hf) hC (by decide +kernel)
  · have hf := ev_nf h1 hf
    refine ev_blk hX lkok_RJ9 [(.iload_n 0, 1, 0, 0, 0)] (by decide +kernel) (g := true) (lv' := [some (.int l0), some (.int l1)]) (st' := [.int l0]) (D' := D) (pc' := 6) rfl (rfl) rfl ?_
    refine ev_goto hX (off := 4) 10 (by decide +kernel) (by decide) ?_
    exact ev_iret hR ev_sm.rf (Option.some.inj hf) hC (by decide +kernel)
theorem nJ9_max {S : ev_S} {fu : Nat} {r : Int32 × ev_D} {l0 : Int32} {l1 : Int32} {D : ev_D}  (hf : fJ9_max (sL S) (sE S) fu l0 l1 D = some r) : ev_M 0 0 0 yJ9_max_7cf53 cJ9_max_7cf53 2 (some .int) [.int l0, .int l1] S D S r :=
  ev_met (ini := false) (by decide +kernel) (fun h => by cases h) rfl (Nat.le_of_ble_eq_true rfl) (fun F hR => uJ9_max (S := ev_z S) hR ⟨Nat.le_refl 0, Nat.le_refl 0⟩  hf)
set_option maxHeartbeats 4000000 in
set_option maxRecDepth 100000 in
theorem uX3_leastBeside_2 {S : ev_S} {fu : Nat} {r : Int32 × ev_D} {F : ev_Fr} (hR : ev_R RX3 cX3_leastBeside 3 0 0 0 false (some .int) S r F) (hC : sC S ≤ 0 ∧ sA S ≤ 0) : ∀ (n : Nat) (l0 : Int32) (l1 : Int32) (l2 : Int32) (D : ev_D), fX3_leastBeside_2 (sL S) (sE S) fu n l0 l1 l2 D = some r → F S D 2 [some (.int l0), some (.int l1), some (.int l2)] [] := by
  have hX := hR.X
  intro n
  induction n with
  | zero =>
    intro l0 l1 l2 D  hf
    rw [fX3_leastBeside_2] at hf
    cases hf
  | succ n ih =>
    intro l0 l1 l2 D  hf
    rw [fX3_leastBeside_2] at hf
    refine ev_blk hX lkok_RX3 [(.iload_n 2, 1, 0, 0, 0), (.iconst 2, 1, 0, 0, 2)] (by decide +kernel) (g := true) (lv' := [some (.int l0), some (.int l1), some (.int l2)]) (st' := [.int (2 : Int32), .int l2]) (D' := D) (pc' := 4) rfl (rfl) rfl ?_
    refine ev_ic_ge hX (off := 21) 25 (by decide +kernel) (by decide) (fun h1 => ?_) (fun h1 => ?_)
    · have hf := ev_it h1 hf
      refine ev_blk hX lkok_RX3 [(.iconst 2, 1, 0, 0, 2)] (by decide +kernel) (g := true) (lv' := [some (.int l0), some (.int l1), some (.int l2)]) (st' := [.int (2 : Int32)]) (D' := D) (pc' := 26) rfl (rfl) rfl ?_
      exact ev_iret hR ev_sm.rf (Option.some.inj hf) hC (by decide +kernel)
    · have hf := ev_nf h1 hf
      refine ev_blk hX lkok_RX3 [(.iload_n 2, 1, 0, 0, 0), (.iload_n 0, 1, 0, 0, 0)] (by decide +kernel) (g := true) (lv' := [some (.int l0), some (.int l1), some (.int l2)]) (st' := [.int l0, .int l2]) (D' := D) (pc' := 9) rfl (rfl) rfl ?_
      refine ev_ic_eq hX (off := 10) 19 (by decide +kernel) (by decide) (fun h2 => ?_) (fun h2 => ?_)
      · have hf := ev_it h2 hf
        refine ev_blk hX lkok_RX3 [(.iinc 2 1, 3, 0, 0, 1)] (by decide +kernel) (g := true) (lv' := [some (.int l0), some (.int l1), some (.int (l2 + (1 : Int32)))]) (st' := []) (D' := D) (pc' := 22) rfl (rfl) rfl ?_
        refine ev_goto hX (off := (-20)) 2 (by decide +kernel) (by decide) ?_
        exact ev_weak hX (ev_le_eq (ev_le_eq (ev_le_eq ev_le_nil))) (ih _ _ _ _  hf)
      · have hf := ev_nf h2 hf
        refine ev_blk hX lkok_RX3 [(.iload_n 2, 1, 0, 0, 0), (.iload_n 1, 1, 0, 0, 0)] (by decide +kernel) (g := true) (lv' := [some (.int l0), some (.int l1), some (.int l2)]) (st' := [.int l1, .int l2]) (D' := D) (pc' := 14) rfl (rfl) rfl ?_
        refine ev_ic_eq hX (off := 5) 19 (by decide +kernel) (by decide) (fun h3 => ?_) (fun h3 => ?_)
        · have hf := ev_it h3 hf
          refine ev_blk hX lkok_RX3 [(.iinc 2 1, 3, 0, 0, 1)] (by decide +kernel) (g := true) (lv' := [some (.int l0), some (.int l1), some (.int (l2 + (1 : Int32)))]) (st' := []) (D' := D) (pc' := 22) rfl (rfl) rfl ?_
          refine ev_goto hX (off := (-20)) 2 (by decide +kernel) (by decide) ?_
          exact ev_weak hX (ev_le_eq (ev_le_eq (ev_le_eq ev_le_nil))) (ih _ _ _ _  hf)
        · have hf := ev_nf h3 hf
          refine ev_blk hX lkok_RX3 [(.iload_n 2, 1, 0, 0, 0)] (by decide +kernel) (g := true) (lv' := [some (.int l0), some (.int l1), some (.int l2)]) (st' := [.int l2]) (D' := D) (pc' := 18) rfl (rfl) rfl ?_
          exact ev_iret hR ev_sm.rf (Option.some.inj hf) hC (by decide +kernel)
set_option maxHeartbeats 4000000 in
set_option maxRecDepth 100000 in
theorem uX3_leastBeside {S : ev_S} {fu : Nat} {r : Int32 × ev_D} {F : ev_Fr} (hR : ev_R RX3 cX3_leastBeside 3 0 0 0 false (some .int) S r F) (hC : sC S ≤ 0 ∧ sA S ≤ 0) {l0 : Int32} {l1 : Int32} {D : ev_D}  (hf : fX3_leastBeside (sL S) (sE S) fu l0 l1 D = some r) : F S D 0 [some (.int l0), some (.int l1), none] [] := by
  have hX := hR.X
  unfold fX3_leastBeside at hf
  refine ev_blk hX lkok_RX3 [(.iconst 0, 1, 0, 0, 0), (.istore_n 2, 1, 0, 0, 0)] (by decide +kernel) (g := true) (lv' := [some (.int l0), some (.int l1), some (.int (0 : Int32))]) (st' := []) (D' := D) (pc' := 2) rfl (rfl) rfl ?_
  exact ev_weak hX (ev_le_eq (ev_le_eq (ev_le_eq ev_le_nil))) (uX3_leastBeside_2 hR hC   fu _ _ _ _  hf)
theorem nX3_leastBeside {S : ev_S} {fu : Nat} {r : Int32 × ev_D} {l0 : Int32} {l1 : Int32} {D : ev_D}  (hf : fX3_leastBeside (sL S) (sE S) fu l0 l1 D = some r) : ev_M 0 0 0 yX3_leastBeside cX3_leastBeside 3 (some .int) [.int l0, .int l1] S D S r :=
  ev_met (ini := false) (plainFor_of_name (by decide)) (fun h => by cases h) rfl (Nat.le_of_ble_eq_true rfl) (fun F hR => uX3_leastBeside (S := ev_z S) hR ⟨Nat.le_refl 0, Nat.le_refl 0⟩  hf)
def wJ7_fill (vs : List Value) (S : ev_S) (D : ev_D) : Option ev_Rs := match vs with
  | [.ref x0, .int x1] => (bif sK S x0 == 1 then (match fJ7_fill (sL S) (sE S) 4000 x0 x1 D with
    | some (v, D2) => some (v, ev_z S, D2)
    | none => none) else none)
  | _ => none
theorem mwJ7_fill {vs : List Value} {S : ev_S} {D : ev_D} {v : Int32} {S2 : ev_S} {D2 : ev_D} (h : wJ7_fill vs S D = some (v, S2, D2)) : ev_M 0 (sC S2) (sA S2) yJ7_fill_53178 cJ7_fill_53178 4 none vs S D S2 (v, D2) := by
  unfold wJ7_fill at h
  split at h
  · simp only [cond] at h
    split at h
    · rename_i hc
      split at h
      · rename_i hf
        cases h
        exact nJ7_fill (by simpa using hc) hf
      · cases h
    · cases h
  · cases h
def wJ9_max (vs : List Value) (S : ev_S) (D : ev_D) : Option ev_Rs := match vs with
  | [.int x0, .int x1] => (bif true then (match fJ9_max (sL S) (sE S) 4000 x0 x1 D with
    | some (v, D2) => some (v, ev_z S, D2)
    | none => none) else none)
  | _ => none
theorem mwJ9_max {vs : List Value} {S : ev_S} {D : ev_D} {v : Int32} {S2 : ev_S} {D2 : ev_D} (h : wJ9_max vs S D = some (v, S2, D2)) : ev_M 0 (sC S2) (sA S2) yJ9_max_7cf53 cJ9_max_7cf53 2 (some .int) vs S D S2 (v, D2) := by
  unfold wJ9_max at h
  split at h
  · simp only [cond] at h
    split at h
    · skip
      split at h
      · rename_i hf
        cases h
        exact nJ9_max  hf
      · cases h
    · cases h
  · cases h
def wX3_leastBeside (vs : List Value) (S : ev_S) (D : ev_D) : Option ev_Rs := match vs with
  | [.int x0, .int x1] => (bif true then (match fX3_leastBeside (sL S) (sE S) 4000 x0 x1 D with
    | some (v, D2) => some (v, ev_z S, D2)
    | none => none) else none)
  | _ => none
theorem mwX3_leastBeside {vs : List Value} {S : ev_S} {D : ev_D} {v : Int32} {S2 : ev_S} {D2 : ev_D} (h : wX3_leastBeside vs S D = some (v, S2, D2)) : ev_M 0 (sC S2) (sA S2) yX3_leastBeside cX3_leastBeside 3 (some .int) vs S D S2 (v, D2) := by
  unfold wX3_leastBeside at h
  split at h
  · simp only [cond] at h
    split at h
    · skip
      split at h
      · rename_i hf
        cases h
        exact nX3_leastBeside  hf
      · cases h
    · cases h
  · cases h
theorem YcX9_init : ev_YI yX9_init cX9_init 1 0 := ⟨⟨(mt_1 (List.mem_of_getElem? (i := 41) rfl)), (mt_1 (List.mem_of_getElem? (i := 3) rfl)), by decide +kernel, by decide⟩, (mt_1 (List.mem_of_getElem? (i := 40) rfl)), rfl⟩
theorem YcX0_init : ev_YI yX0_init cX0_init 2 1 := ⟨⟨(mt_1 (List.mem_of_getElem? (i := 125) rfl)), (mt_1 (List.mem_of_getElem? (i := 5) rfl)), by decide +kernel, by decide⟩, (mt_1 (List.mem_of_getElem? (i := 124) rfl)), rfl⟩
theorem YcX1_init : ev_YI yX1_init cX1_init 1 0 := ⟨⟨(mt_1 (List.mem_of_getElem? (i := 152) rfl)), (mt_1 (List.mem_of_getElem? (i := 8) rfl)), by decide +kernel, by decide⟩, (mt_1 (List.mem_of_getElem? (i := 151) rfl)), rfl⟩
theorem YcX6_init : ev_YI yX6_init cX6_init 2 1 := ⟨⟨(mt_1 (List.mem_of_getElem? (i := 184) rfl)), (mt_1 (List.mem_of_getElem? (i := 9) rfl)), by decide +kernel, by decide⟩, (mt_1 (List.mem_of_getElem? (i := 183) rfl)), rfl⟩
theorem YcX7_init : ev_YI yX7_init cX7_init 1 0 := ⟨⟨(mt_1 (List.mem_of_getElem? (i := 146) rfl)), (mt_1 (List.mem_of_getElem? (i := 7) rfl)), by decide +kernel, by decide⟩, (mt_1 (List.mem_of_getElem? (i := 145) rfl)), rfl⟩
theorem YcX8_init : ev_YI yX8_init cX8_init 1 0 := ⟨⟨(mt_1 (List.mem_of_getElem? (i := 229) rfl)), (mt_1 (List.mem_of_getElem? (i := 10) rfl)), by decide +kernel, by decide⟩, (mt_1 (List.mem_of_getElem? (i := 228) rfl)), rfl⟩
theorem YcX10_init : ev_YI yX10_init cX10_init 1 0 := ⟨⟨(mt_1 (List.mem_of_getElem? (i := 35) rfl)), (mt_1 (List.mem_of_getElem? (i := 2) rfl)), by decide +kernel, by decide⟩, (mt_1 (List.mem_of_getElem? (i := 34) rfl)), rfl⟩
theorem YcX2_init : ev_YI yX2_init cX2_init 2 0 := ⟨⟨(mt_2 (List.mem_of_getElem? (i := 49) rfl)), (mt_1 (List.mem_of_getElem? (i := 11) rfl)), by decide +kernel, by decide⟩, (mt_2 (List.mem_of_getElem? (i := 48) rfl)), rfl⟩
theorem YcX4_init : ev_YI yX4_init cX4_init 1 0 := ⟨⟨(mt_2 (List.mem_of_getElem? (i := 72) rfl)), (mt_1 (List.mem_of_getElem? (i := 12) rfl)), by decide +kernel, by decide⟩, (mt_2 (List.mem_of_getElem? (i := 71) rfl)), rfl⟩
theorem YcX5_init : ev_YI yX5_init cX5_init 4 3 := ⟨⟨(mt_2 (List.mem_of_getElem? (i := 121) rfl)), (mt_1 (List.mem_of_getElem? (i := 13) rfl)), by decide +kernel, by decide⟩, (mt_2 (List.mem_of_getElem? (i := 120) rfl)), rfl⟩
theorem YcX3_init : ev_YI yX3_init cX3_init 5 3 := ⟨⟨(mt_2 (List.mem_of_getElem? (i := 145) rfl)), (mt_1 (List.mem_of_getElem? (i := 14) rfl)), by decide +kernel, by decide⟩, (mt_2 (List.mem_of_getElem? (i := 144) rfl)), rfl⟩
theorem YcX11_init : ev_YI yX11_init cX11_init 1 0 := ⟨⟨(mt_1 (List.mem_of_getElem? (i := 27) rfl)), (mt_1 (List.mem_of_getElem? (i := 1) rfl)), by decide +kernel, by decide⟩, (mt_1 (List.mem_of_getElem? (i := 26) rfl)), rfl⟩
theorem YcX12_init : ev_YI yX12_init cX12_init 1 0 := ⟨⟨(mt_6 (List.mem_of_getElem? (i := 33) rfl)), (mt_1 (List.mem_of_getElem? (i := 15) rfl)), by decide +kernel, by decide⟩, (mt_6 (List.mem_of_getElem? (i := 32) rfl)), rfl⟩
def tbX9_init : List (Nat × ev_Jn) := [(0, (0, (.aload_n 0, 1, 0, 0, 0), 0, 0, 0)), (1, (12, (.invokespecial 3, 3, 0, 0, 0), 0, 0, 0)), (4, (0, (.aload_n 0, 1, 0, 0, 0), 0, 0, 0)), (5, (0, (.iconst 0, 1, 0, 0, 0), 0, 0, 0)), (6, (0, (.putfield 9, 3, 9, 0, 0), 0, 0, 0)), (9, (0, (.aload_n 0, 1, 0, 0, 0), 0, 0, 0)), (10, (0, (.iconst 0, 1, 0, 0, 0), 0, 0, 0)), (11, (0, (.putfield 15, 3, 9, 1, 0), 0, 0, 0)), (14, (0, (.aload_n 0, 1, 0, 0, 0), 0, 0, 0)), (15, (0, (.iconst 0, 1, 0, 0, 0), 0, 0, 0)), (16, (0, (.putfield 18, 3, 9, 2, 0), 0, 0, 0)), (19, (0, (.aload_n 0, 1, 0, 0, 0), 0, 0, 0)), (20, (0, (.iconst 0, 1, 0, 0, 0), 0, 0, 0)), (21, (0, (.putfield 21, 3, 9, 3, 0), 0, 0, 0)), (24, (0, (.aload_n 0, 1, 0, 0, 0), 0, 0, 0)), (25, (0, (.iconst 0, 1, 0, 0, 0), 0, 0, 0)), (26, (0, (.putfield 24, 3, 9, 4, 0), 0, 0, 0)), (29, (0, (.aload_n 0, 1, 0, 0, 0), 0, 0, 0)), (30, (0, (.iconst 0, 1, 0, 0, 0), 0, 0, 0)), (31, (0, (.putfield 27, 3, 9, 5, 0), 0, 0, 0)), (34, (0, (.aload_n 0, 1, 0, 0, 0), 0, 0, 0)), (35, (0, (.iconst 0, 1, 0, 0, 0), 0, 0, 0)), (36, (0, (.putfield 30, 3, 9, 6, 0), 0, 0, 0)), (39, (0, (.aload_n 0, 1, 0, 0, 0), 0, 0, 0)), (40, (0, (.bipush 8, 2, 0, 0, 8), 0, 0, 0)), (42, (7, (.newarray .int, 2, 0, 0, 0), 0, 0, 0)), (44, (9, (.putfield 33, 3, 0, 0, 0), 9, 7, 0)), (47, (0, (.aload_n 0, 1, 0, 0, 0), 0, 0, 0)), (48, (0, (.bipush 8, 2, 0, 0, 8), 0, 0, 0)), (50, (7, (.newarray .int, 2, 0, 0, 0), 0, 0, 0)), (52, (9, (.putfield 37, 3, 0, 0, 0), 9, 8, 0)), (55, (0, (.aload_n 0, 1, 0, 0, 0), 0, 0, 0)), (56, (0, (.bipush 10, 2, 0, 0, 10), 0, 0, 0)), (58, (7, (.newarray .int, 2, 0, 0, 0), 0, 0, 0)), (60, (9, (.putfield 40, 3, 0, 0, 0), 9, 9, 0)), (63, (0, (.aload_n 0, 1, 0, 0, 0), 0, 0, 0)), (64, (0, (.bipush 10, 2, 0, 0, 10), 0, 0, 0)), (66, (7, (.newarray .int, 2, 0, 0, 0), 0, 0, 0)), (68, (9, (.putfield 43, 3, 0, 0, 0), 9, 10, 0)), (71, (0, (.aload_n 0, 1, 0, 0, 0), 0, 0, 0)), (72, (0, (.bipush 10, 2, 0, 0, 10), 0, 0, 0)), (74, (7, (.newarray .int, 2, 0, 0, 0), 0, 0, 0)), (76, (9, (.putfield 46, 3, 0, 0, 0), 9, 11, 0)), (79, (0, (.aload_n 0, 1, 0, 0, 0), 0, 0, 0)), (80, (0, (.bipush 10, 2, 0, 0, 10), 0, 0, 0)), (82, (7, (.newarray .int, 2, 0, 0, 0), 0, 0, 0)), (84, (9, (.putfield 49, 3, 0, 0, 0), 9, 12, 0)), (87, (0, (.aload_n 0, 1, 0, 0, 0), 0, 0, 0)), (88, (0, (.bipush 10, 2, 0, 0, 10), 0, 0, 0)), (90, (7, (.newarray .int, 2, 0, 0, 0), 0, 0, 0)), (92, (9, (.putfield 52, 3, 0, 0, 0), 9, 13, 0)), (95, (0, (.aload_n 0, 1, 0, 0, 0), 0, 0, 0)), (96, (0, (.getfield 33, 3, 9, 7, 0), 0, 0, 0)), (99, (0, (.iconst 1, 1, 0, 0, 1), 0, 0, 0)), (100, (10, (.invokestatic 55, 3, 0, 0, 0), 0, 2, 0)), (103, (4, (.return_, 1, 0, 0, 0), 0, 0, 0))]
def cfX9_init : ev_Cf := fun k vs S D => match k with
  | 0 => wJ7_fill vs S D
  | _ => none
def gX9_init (vs : List Value) (S : ev_S) (D : ev_D) : Option ev_Rs := bif vs.all ev_plain && decide (vs.length ≤ 1) then ev_run tbX9_init cfX9_init 4000 0 (vs.map some ++ List.replicate (1 - vs.length) none) [] (ev_z S) D else none
def tnX9_init : List (Nat × ev_Jn) := [(1, (12, (.invokespecial 3, 3, 0, 0, 0), 0, 0, 0)), (42, (7, (.newarray .int, 2, 0, 0, 0), 0, 0, 0)), (44, (9, (.putfield 33, 3, 0, 0, 0), 9, 7, 0)), (50, (7, (.newarray .int, 2, 0, 0, 0), 0, 0, 0)), (52, (9, (.putfield 37, 3, 0, 0, 0), 9, 8, 0)), (58, (7, (.newarray .int, 2, 0, 0, 0), 0, 0, 0)), (60, (9, (.putfield 40, 3, 0, 0, 0), 9, 9, 0)), (66, (7, (.newarray .int, 2, 0, 0, 0), 0, 0, 0)), (68, (9, (.putfield 43, 3, 0, 0, 0), 9, 10, 0)), (74, (7, (.newarray .int, 2, 0, 0, 0), 0, 0, 0)), (76, (9, (.putfield 46, 3, 0, 0, 0), 9, 11, 0)), (82, (7, (.newarray .int, 2, 0, 0, 0), 0, 0, 0)), (84, (9, (.putfield 49, 3, 0, 0, 0), 9, 12, 0)), (90, (7, (.newarray .int, 2, 0, 0, 0), 0, 0, 0)), (92, (9, (.putfield 52, 3, 0, 0, 0), 9, 13, 0)), (100, (10, (.invokestatic 55, 3, 0, 0, 0), 0, 2, 0)), (103, (4, (.return_, 1, 0, 0, 0), 0, 0, 0))]
set_option maxRecDepth 100000 in
theorem jX9_init_1 : ev_jok cfX9_init RX9 cX9_init 1 1 true 1 (12, (.invokespecial 3, 3, 0, 0, 0), 0, 0, 0) := ⟨3, (mt_1 (List.mem_of_getElem? (i := 42) rfl)), ac_oi, ac_oc, by decide, by decide +kernel⟩
set_option maxRecDepth 100000 in
theorem jX9_init_42 : ev_jok cfX9_init RX9 cX9_init 1 1 true 42 (7, (.newarray .int, 2, 0, 0, 0), 0, 0, 0) := ⟨ac_int, by decide +kernel⟩
set_option maxRecDepth 100000 in
theorem jX9_init_44 : ev_jok cfX9_init RX9 cX9_init 1 1 true 44 (9, (.putfield 33, 3, 0, 0, 0), 9, 7, 0) := ⟨33, (RX9, TX9, 14), rfl, by decide, (mt_1 (List.mem_of_getElem? (i := 66) rfl)), Or.inr ⟨rfl, rfl, rfl⟩, by decide +kernel⟩
set_option maxRecDepth 100000 in
theorem jX9_init_50 : ev_jok cfX9_init RX9 cX9_init 1 1 true 50 (7, (.newarray .int, 2, 0, 0, 0), 0, 0, 0) := ⟨ac_int, by decide +kernel⟩
set_option maxRecDepth 100000 in
theorem jX9_init_52 : ev_jok cfX9_init RX9 cX9_init 1 1 true 52 (9, (.putfield 37, 3, 0, 0, 0), 9, 8, 0) := ⟨37, (RX9, TX9, 14), rfl, by decide, (mt_1 (List.mem_of_getElem? (i := 70) rfl)), Or.inr ⟨rfl, rfl, rfl⟩, by decide +kernel⟩
set_option maxRecDepth 100000 in
theorem jX9_init_58 : ev_jok cfX9_init RX9 cX9_init 1 1 true 58 (7, (.newarray .int, 2, 0, 0, 0), 0, 0, 0) := ⟨ac_int, by decide +kernel⟩
set_option maxRecDepth 100000 in
theorem jX9_init_60 : ev_jok cfX9_init RX9 cX9_init 1 1 true 60 (9, (.putfield 40, 3, 0, 0, 0), 9, 9, 0) := ⟨40, (RX9, TX9, 14), rfl, by decide, (mt_1 (List.mem_of_getElem? (i := 73) rfl)), Or.inr ⟨rfl, rfl, rfl⟩, by decide +kernel⟩
set_option maxRecDepth 100000 in
theorem jX9_init_66 : ev_jok cfX9_init RX9 cX9_init 1 1 true 66 (7, (.newarray .int, 2, 0, 0, 0), 0, 0, 0) := ⟨ac_int, by decide +kernel⟩
set_option maxRecDepth 100000 in
theorem jX9_init_68 : ev_jok cfX9_init RX9 cX9_init 1 1 true 68 (9, (.putfield 43, 3, 0, 0, 0), 9, 10, 0) := ⟨43, (RX9, TX9, 14), rfl, by decide, (mt_1 (List.mem_of_getElem? (i := 76) rfl)), Or.inr ⟨rfl, rfl, rfl⟩, by decide +kernel⟩
set_option maxRecDepth 100000 in
theorem jX9_init_74 : ev_jok cfX9_init RX9 cX9_init 1 1 true 74 (7, (.newarray .int, 2, 0, 0, 0), 0, 0, 0) := ⟨ac_int, by decide +kernel⟩
set_option maxRecDepth 100000 in
theorem jX9_init_76 : ev_jok cfX9_init RX9 cX9_init 1 1 true 76 (9, (.putfield 46, 3, 0, 0, 0), 9, 11, 0) := ⟨46, (RX9, TX9, 14), rfl, by decide, (mt_1 (List.mem_of_getElem? (i := 79) rfl)), Or.inr ⟨rfl, rfl, rfl⟩, by decide +kernel⟩
set_option maxRecDepth 100000 in
theorem jX9_init_82 : ev_jok cfX9_init RX9 cX9_init 1 1 true 82 (7, (.newarray .int, 2, 0, 0, 0), 0, 0, 0) := ⟨ac_int, by decide +kernel⟩
set_option maxRecDepth 100000 in
theorem jX9_init_84 : ev_jok cfX9_init RX9 cX9_init 1 1 true 84 (9, (.putfield 49, 3, 0, 0, 0), 9, 12, 0) := ⟨49, (RX9, TX9, 14), rfl, by decide, (mt_1 (List.mem_of_getElem? (i := 83) rfl)), Or.inr ⟨rfl, rfl, rfl⟩, by decide +kernel⟩
set_option maxRecDepth 100000 in
theorem jX9_init_90 : ev_jok cfX9_init RX9 cX9_init 1 1 true 90 (7, (.newarray .int, 2, 0, 0, 0), 0, 0, 0) := ⟨ac_int, by decide +kernel⟩
set_option maxRecDepth 100000 in
theorem jX9_init_92 : ev_jok cfX9_init RX9 cX9_init 1 1 true 92 (9, (.putfield 52, 3, 0, 0, 0), 9, 13, 0) := ⟨52, (RX9, TX9, 14), rfl, by decide, (mt_1 (List.mem_of_getElem? (i := 87) rfl)), Or.inr ⟨rfl, rfl, rfl⟩, by decide +kernel⟩
set_option maxRecDepth 100000 in
theorem jX9_init_100 : ev_jok cfX9_init RX9 cX9_init 1 1 true 100 (10, (.invokestatic 55, 3, 0, 0, 0), 0, 2, 0) := ⟨55, yJ7_fill_53178, cJ7_fill_53178, 4, none, 0, YJ7_fill, (Or.inl (mt_1 (List.mem_of_getElem? (i := 43) rfl))), by decide, fun _ _ => rfl, by decide +kernel, fun vs S D v S2 D2 h => mwJ7_fill h⟩
set_option maxRecDepth 100000 in
theorem jX9_init_103 : ev_jok cfX9_init RX9 cX9_init 1 1 true 103 (4, (.return_, 1, 0, 0, 0), 0, 0, 0) := by decide +kernel
set_option maxRecDepth 100000 in
theorem jnX9_init : ∀ e ∈ tnX9_init, ev_jok cfX9_init RX9 cX9_init 1 1 true e.1 e.2 := List.forall_mem_cons.mpr ⟨jX9_init_1, List.forall_mem_cons.mpr ⟨jX9_init_42, List.forall_mem_cons.mpr ⟨jX9_init_44, List.forall_mem_cons.mpr ⟨jX9_init_50, List.forall_mem_cons.mpr ⟨jX9_init_52, List.forall_mem_cons.mpr ⟨jX9_init_58, List.forall_mem_cons.mpr ⟨jX9_init_60, List.forall_mem_cons.mpr ⟨jX9_init_66, List.forall_mem_cons.mpr ⟨jX9_init_68, List.forall_mem_cons.mpr ⟨jX9_init_74, List.forall_mem_cons.mpr ⟨jX9_init_76, List.forall_mem_cons.mpr ⟨jX9_init_82, List.forall_mem_cons.mpr ⟨jX9_init_84, List.forall_mem_cons.mpr ⟨jX9_init_90, List.forall_mem_cons.mpr ⟨jX9_init_92, List.forall_mem_cons.mpr ⟨jX9_init_100, List.forall_mem_cons.mpr ⟨jX9_init_103, fun _ h => absurd h List.not_mem_nil⟩⟩⟩⟩⟩⟩⟩⟩⟩⟩⟩⟩⟩⟩⟩⟩⟩
set_option maxRecDepth 100000 in
theorem jtX9_init : ∀ e ∈ tbX9_init, ev_jok cfX9_init RX9 cX9_init 1 1 true e.1 e.2 := ev_tball (lk := lk_RX9) lkok_RX9 (by decide +kernel) (by decide +kernel) jnX9_init
set_option maxRecDepth 100000 in
theorem mgX9_init {vs : List Value} {S : ev_S} {D : ev_D} {v : Int32} {S2 : ev_S} {D2 : ev_D} (h : gX9_init vs S D = some (v, S2, D2)) : ev_M 1 (sC S2) (sA S2) yX9_init cX9_init 1 none vs S D S2 (v, D2) := by
  unfold gX9_init at h
  obtain ⟨h1, h2, h3⟩ := ev_bif h
  exact ev_met (ini := true) (plainFor_of_name (by decide)) (fun _ => rfl) h1 h2 (fun F hR => ev_run_ok hR (Or.inl rfl) jtX9_init (ev_no5 (by decide +kernel)) 4000 0 _ [] (ev_z S) D h3)
def tbX0_init : List (Nat × ev_Jn) := [(0, (0, (.aload_n 0, 1, 0, 0, 0), 0, 0, 0)), (1, (12, (.invokespecial 3, 3, 0, 0, 0), 0, 0, 0)), (4, (0, (.aload_n 0, 1, 0, 0, 0), 0, 0, 0)), (5, (0, (.iconst 0, 1, 0, 0, 0), 0, 0, 0)), (6, (0, (.putfield 9, 3, 0, 0, 0), 0, 0, 0)), (9, (0, (.aload_n 0, 1, 0, 0, 0), 0, 0, 0)), (10, (0, (.iconst 0, 1, 0, 0, 0), 0, 0, 0)), (11, (0, (.iload_n 1, 1, 0, 0, 0), 0, 0, 0)), (12, (10, (.invokestatic 15, 3, 0, 0, 0), 0, 2, 1)), (15, (9, (.putfield 21, 3, 0, 0, 0), 0, 1, 0)), (18, (0, (.aload_n 0, 1, 0, 0, 0), 0, 0, 0)), (19, (0, (.aload_n 0, 1, 0, 0, 0), 0, 0, 0)), (20, (0, (.getfield 21, 3, 0, 1, 0), 0, 0, 0)), (23, (0, (.iconst 4, 1, 0, 0, 4), 0, 0, 0)), (24, (0, (.imul, 1, 0, 0, 0), 0, 0, 0)), (25, (7, (.newarray .int, 2, 0, 0, 0), 0, 0, 0)), (27, (9, (.putfield 24, 3, 0, 0, 0), 0, 2, 0)), (30, (4, (.return_, 1, 0, 0, 0), 0, 0, 0))]
def cfX0_init : ev_Cf := fun k vs S D => match k with
  | 0 => wJ9_max vs S D
  | _ => none
def gX0_init (vs : List Value) (S : ev_S) (D : ev_D) : Option ev_Rs := bif vs.all ev_plain && decide (vs.length ≤ 2) then ev_run tbX0_init cfX0_init 4000 0 (vs.map some ++ List.replicate (2 - vs.length) none) [] (ev_z S) D else none
def tnX0_init : List (Nat × ev_Jn) := [(1, (12, (.invokespecial 3, 3, 0, 0, 0), 0, 0, 0)), (12, (10, (.invokestatic 15, 3, 0, 0, 0), 0, 2, 1)), (15, (9, (.putfield 21, 3, 0, 0, 0), 0, 1, 0)), (25, (7, (.newarray .int, 2, 0, 0, 0), 0, 0, 0)), (27, (9, (.putfield 24, 3, 0, 0, 0), 0, 2, 0)), (30, (4, (.return_, 1, 0, 0, 0), 0, 0, 0))]
set_option maxRecDepth 100000 in
theorem jX0_init_1 : ev_jok cfX0_init RX0 cX0_init 2 1 true 1 (12, (.invokespecial 3, 3, 0, 0, 0), 0, 0, 0) := ⟨3, (mt_1 (List.mem_of_getElem? (i := 126) rfl)), ac_oi, ac_oc, by decide, by decide +kernel⟩
set_option maxRecDepth 100000 in
theorem jX0_init_12 : ev_jok cfX0_init RX0 cX0_init 2 1 true 12 (10, (.invokestatic 15, 3, 0, 0, 0), 0, 2, 1) := ⟨15, yJ9_max_7cf53, cJ9_max_7cf53, 2, (some .int), 0, YJ9_max, (Or.inl (mt_1 (List.mem_of_getElem? (i := 127) rfl))), by decide, fun _ _ => rfl, by decide +kernel, fun vs S D v S2 D2 h => mwJ9_max h⟩
set_option maxRecDepth 100000 in
theorem jX0_init_15 : ev_jok cfX0_init RX0 cX0_init 2 1 true 15 (9, (.putfield 21, 3, 0, 0, 0), 0, 1, 0) := ⟨21, (RX0, TX0, 3), rfl, by decide, (mt_1 (List.mem_of_getElem? (i := 133) rfl)), Or.inr ⟨rfl, rfl, rfl⟩, by decide +kernel⟩
set_option maxRecDepth 100000 in
theorem jX0_init_25 : ev_jok cfX0_init RX0 cX0_init 2 1 true 25 (7, (.newarray .int, 2, 0, 0, 0), 0, 0, 0) := ⟨ac_int, by decide +kernel⟩
set_option maxRecDepth 100000 in
theorem jX0_init_27 : ev_jok cfX0_init RX0 cX0_init 2 1 true 27 (9, (.putfield 24, 3, 0, 0, 0), 0, 2, 0) := ⟨24, (RX0, TX0, 3), rfl, by decide, (mt_1 (List.mem_of_getElem? (i := 134) rfl)), Or.inr ⟨rfl, rfl, rfl⟩, by decide +kernel⟩
set_option maxRecDepth 100000 in
theorem jX0_init_30 : ev_jok cfX0_init RX0 cX0_init 2 1 true 30 (4, (.return_, 1, 0, 0, 0), 0, 0, 0) := by decide +kernel
set_option maxRecDepth 100000 in
theorem jnX0_init : ∀ e ∈ tnX0_init, ev_jok cfX0_init RX0 cX0_init 2 1 true e.1 e.2 := List.forall_mem_cons.mpr ⟨jX0_init_1, List.forall_mem_cons.mpr ⟨jX0_init_12, List.forall_mem_cons.mpr ⟨jX0_init_15, List.forall_mem_cons.mpr ⟨jX0_init_25, List.forall_mem_cons.mpr ⟨jX0_init_27, List.forall_mem_cons.mpr ⟨jX0_init_30, fun _ h => absurd h List.not_mem_nil⟩⟩⟩⟩⟩⟩
set_option maxRecDepth 100000 in
theorem jtX0_init : ∀ e ∈ tbX0_init, ev_jok cfX0_init RX0 cX0_init 2 1 true e.1 e.2 := ev_tball (lk := lk_RX0) lkok_RX0 (by decide +kernel) (by decide +kernel) jnX0_init
set_option maxRecDepth 100000 in
theorem mgX0_init {vs : List Value} {S : ev_S} {D : ev_D} {v : Int32} {S2 : ev_S} {D2 : ev_D} (h : gX0_init vs S D = some (v, S2, D2)) : ev_M 1 (sC S2) (sA S2) yX0_init cX0_init 2 none vs S D S2 (v, D2) := by
  unfold gX0_init at h
  obtain ⟨h1, h2, h3⟩ := ev_bif h
  exact ev_met (ini := true) (plainFor_of_name (by decide)) (fun _ => rfl) h1 h2 (fun F hR => ev_run_ok hR (Or.inl rfl) jtX0_init (ev_no5 (by decide +kernel)) 4000 0 _ [] (ev_z S) D h3)
def tbX1_init : List (Nat × ev_Jn) := [(0, (0, (.aload_n 0, 1, 0, 0, 0), 0, 0, 0)), (1, (12, (.invokespecial 5, 3, 0, 0, 0), 0, 0, 0)), (4, (0, (.aload_n 0, 1, 0, 0, 0), 0, 0, 0)), (5, (0, (.iconst 0, 1, 0, 0, 0), 0, 0, 0)), (6, (0, (.putfield 11, 3, 1, 0, 0), 0, 0, 0)), (9, (0, (.aload_n 0, 1, 0, 0, 0), 0, 0, 0)), (10, (0, (.iconst 0, 1, 0, 0, 0), 0, 0, 0)), (11, (0, (.putfield 15, 3, 1, 1, 0), 0, 0, 0)), (14, (0, (.aload_n 0, 1, 0, 0, 0), 0, 0, 0)), (15, (0, (.bipush 16, 2, 0, 0, 16), 0, 0, 0)), (17, (7, (.newarray .int, 2, 0, 0, 0), 0, 0, 0)), (19, (9, (.putfield 18, 3, 0, 0, 0), 1, 2, 0)), (22, (0, (.aload_n 0, 1, 0, 0, 0), 0, 0, 0)), (23, (0, (.bipush 16, 2, 0, 0, 16), 0, 0, 0)), (25, (7, (.newarray .int, 2, 0, 0, 0), 0, 0, 0)), (27, (9, (.putfield 22, 3, 0, 0, 0), 1, 3, 0)), (30, (0, (.aload_n 0, 1, 0, 0, 0), 0, 0, 0)), (31, (0, (.bipush 16, 2, 0, 0, 16), 0, 0, 0)), (33, (7, (.newarray .int, 2, 0, 0, 0), 0, 0, 0)), (35, (9, (.putfield 25, 3, 0, 0, 0), 1, 4, 0)), (38, (0, (.aload_n 0, 1, 0, 0, 0), 0, 0, 0)), (39, (0, (.bipush 16, 2, 0, 0, 16), 0, 0, 0)), (41, (7, (.newarray .int, 2, 0, 0, 0), 0, 0, 0)), (43, (9, (.putfield 28, 3, 0, 0, 0), 1, 5, 0)), (46, (0, (.aload_n 0, 1, 0, 0, 0), 0, 0, 0)), (47, (0, (.sipush 400, 3, 0, 0, 400), 0, 0, 0)), (50, (7, (.newarray .int, 2, 0, 0, 0), 0, 0, 0)), (52, (9, (.putfield 31, 3, 0, 0, 0), 1, 6, 0)), (55, (0, (.aload_n 0, 1, 0, 0, 0), 0, 0, 0)), (56, (0, (.bipush 40, 2, 0, 0, 40), 0, 0, 0)), (58, (7, (.newarray .int, 2, 0, 0, 0), 0, 0, 0)), (60, (9, (.putfield 34, 3, 0, 0, 0), 1, 7, 0)), (63, (4, (.return_, 1, 0, 0, 0), 0, 0, 0))]
def cfX1_init : ev_Cf := fun k vs S D => match k with
  | _ => none
def gX1_init (vs : List Value) (S : ev_S) (D : ev_D) : Option ev_Rs := bif vs.all ev_plain && decide (vs.length ≤ 1) then ev_run tbX1_init cfX1_init 4000 0 (vs.map some ++ List.replicate (1 - vs.length) none) [] (ev_z S) D else none
def tnX1_init : List (Nat × ev_Jn) := [(1, (12, (.invokespecial 5, 3, 0, 0, 0), 0, 0, 0)), (17, (7, (.newarray .int, 2, 0, 0, 0), 0, 0, 0)), (19, (9, (.putfield 18, 3, 0, 0, 0), 1, 2, 0)), (25, (7, (.newarray .int, 2, 0, 0, 0), 0, 0, 0)), (27, (9, (.putfield 22, 3, 0, 0, 0), 1, 3, 0)), (33, (7, (.newarray .int, 2, 0, 0, 0), 0, 0, 0)), (35, (9, (.putfield 25, 3, 0, 0, 0), 1, 4, 0)), (41, (7, (.newarray .int, 2, 0, 0, 0), 0, 0, 0)), (43, (9, (.putfield 28, 3, 0, 0, 0), 1, 5, 0)), (50, (7, (.newarray .int, 2, 0, 0, 0), 0, 0, 0)), (52, (9, (.putfield 31, 3, 0, 0, 0), 1, 6, 0)), (58, (7, (.newarray .int, 2, 0, 0, 0), 0, 0, 0)), (60, (9, (.putfield 34, 3, 0, 0, 0), 1, 7, 0)), (63, (4, (.return_, 1, 0, 0, 0), 0, 0, 0))]
set_option maxRecDepth 100000 in
theorem jX1_init_1 : ev_jok cfX1_init RX1 cX1_init 1 1 true 1 (12, (.invokespecial 5, 3, 0, 0, 0), 0, 0, 0) := ⟨5, (mt_1 (List.mem_of_getElem? (i := 153) rfl)), ac_oi, ac_oc, by decide, by decide +kernel⟩
set_option maxRecDepth 100000 in
theorem jX1_init_17 : ev_jok cfX1_init RX1 cX1_init 1 1 true 17 (7, (.newarray .int, 2, 0, 0, 0), 0, 0, 0) := ⟨ac_int, by decide +kernel⟩
set_option maxRecDepth 100000 in
theorem jX1_init_19 : ev_jok cfX1_init RX1 cX1_init 1 1 true 19 (9, (.putfield 18, 3, 0, 0, 0), 1, 2, 0) := ⟨18, (RX1, TX1, 8), rfl, by decide, (mt_1 (List.mem_of_getElem? (i := 157) rfl)), Or.inr ⟨rfl, rfl, rfl⟩, by decide +kernel⟩
set_option maxRecDepth 100000 in
theorem jX1_init_25 : ev_jok cfX1_init RX1 cX1_init 1 1 true 25 (7, (.newarray .int, 2, 0, 0, 0), 0, 0, 0) := ⟨ac_int, by decide +kernel⟩
set_option maxRecDepth 100000 in
theorem jX1_init_27 : ev_jok cfX1_init RX1 cX1_init 1 1 true 27 (9, (.putfield 22, 3, 0, 0, 0), 1, 3, 0) := ⟨22, (RX1, TX1, 8), rfl, by decide, (mt_1 (List.mem_of_getElem? (i := 158) rfl)), Or.inr ⟨rfl, rfl, rfl⟩, by decide +kernel⟩
set_option maxRecDepth 100000 in
theorem jX1_init_33 : ev_jok cfX1_init RX1 cX1_init 1 1 true 33 (7, (.newarray .int, 2, 0, 0, 0), 0, 0, 0) := ⟨ac_int, by decide +kernel⟩
set_option maxRecDepth 100000 in
theorem jX1_init_35 : ev_jok cfX1_init RX1 cX1_init 1 1 true 35 (9, (.putfield 25, 3, 0, 0, 0), 1, 4, 0) := ⟨25, (RX1, TX1, 8), rfl, by decide, (mt_1 (List.mem_of_getElem? (i := 159) rfl)), Or.inr ⟨rfl, rfl, rfl⟩, by decide +kernel⟩
set_option maxRecDepth 100000 in
theorem jX1_init_41 : ev_jok cfX1_init RX1 cX1_init 1 1 true 41 (7, (.newarray .int, 2, 0, 0, 0), 0, 0, 0) := ⟨ac_int, by decide +kernel⟩
set_option maxRecDepth 100000 in
theorem jX1_init_43 : ev_jok cfX1_init RX1 cX1_init 1 1 true 43 (9, (.putfield 28, 3, 0, 0, 0), 1, 5, 0) := ⟨28, (RX1, TX1, 8), rfl, by decide, (mt_1 (List.mem_of_getElem? (i := 160) rfl)), Or.inr ⟨rfl, rfl, rfl⟩, by decide +kernel⟩
set_option maxRecDepth 100000 in
theorem jX1_init_50 : ev_jok cfX1_init RX1 cX1_init 1 1 true 50 (7, (.newarray .int, 2, 0, 0, 0), 0, 0, 0) := ⟨ac_int, by decide +kernel⟩
set_option maxRecDepth 100000 in
theorem jX1_init_52 : ev_jok cfX1_init RX1 cX1_init 1 1 true 52 (9, (.putfield 31, 3, 0, 0, 0), 1, 6, 0) := ⟨31, (RX1, TX1, 8), rfl, by decide, (mt_1 (List.mem_of_getElem? (i := 161) rfl)), Or.inr ⟨rfl, rfl, rfl⟩, by decide +kernel⟩
set_option maxRecDepth 100000 in
theorem jX1_init_58 : ev_jok cfX1_init RX1 cX1_init 1 1 true 58 (7, (.newarray .int, 2, 0, 0, 0), 0, 0, 0) := ⟨ac_int, by decide +kernel⟩
set_option maxRecDepth 100000 in
theorem jX1_init_60 : ev_jok cfX1_init RX1 cX1_init 1 1 true 60 (9, (.putfield 34, 3, 0, 0, 0), 1, 7, 0) := ⟨34, (RX1, TX1, 8), rfl, by decide, (mt_1 (List.mem_of_getElem? (i := 162) rfl)), Or.inr ⟨rfl, rfl, rfl⟩, by decide +kernel⟩
set_option maxRecDepth 100000 in
theorem jX1_init_63 : ev_jok cfX1_init RX1 cX1_init 1 1 true 63 (4, (.return_, 1, 0, 0, 0), 0, 0, 0) := by decide +kernel
set_option maxRecDepth 100000 in
theorem jnX1_init : ∀ e ∈ tnX1_init, ev_jok cfX1_init RX1 cX1_init 1 1 true e.1 e.2 := List.forall_mem_cons.mpr ⟨jX1_init_1, List.forall_mem_cons.mpr ⟨jX1_init_17, List.forall_mem_cons.mpr ⟨jX1_init_19, List.forall_mem_cons.mpr ⟨jX1_init_25, List.forall_mem_cons.mpr ⟨jX1_init_27, List.forall_mem_cons.mpr ⟨jX1_init_33, List.forall_mem_cons.mpr ⟨jX1_init_35, List.forall_mem_cons.mpr ⟨jX1_init_41, List.forall_mem_cons.mpr ⟨jX1_init_43, List.forall_mem_cons.mpr ⟨jX1_init_50, List.forall_mem_cons.mpr ⟨jX1_init_52, List.forall_mem_cons.mpr ⟨jX1_init_58, List.forall_mem_cons.mpr ⟨jX1_init_60, List.forall_mem_cons.mpr ⟨jX1_init_63, fun _ h => absurd h List.not_mem_nil⟩⟩⟩⟩⟩⟩⟩⟩⟩⟩⟩⟩⟩⟩
set_option maxRecDepth 100000 in
theorem jtX1_init : ∀ e ∈ tbX1_init, ev_jok cfX1_init RX1 cX1_init 1 1 true e.1 e.2 := ev_tball (lk := lk_RX1) lkok_RX1 (by decide +kernel) (by decide +kernel) jnX1_init
set_option maxRecDepth 100000 in
theorem mgX1_init {vs : List Value} {S : ev_S} {D : ev_D} {v : Int32} {S2 : ev_S} {D2 : ev_D} (h : gX1_init vs S D = some (v, S2, D2)) : ev_M 1 (sC S2) (sA S2) yX1_init cX1_init 1 none vs S D S2 (v, D2) := by
  unfold gX1_init at h
  obtain ⟨h1, h2, h3⟩ := ev_bif h
  exact ev_met (ini := true) (plainFor_of_name (by decide)) (fun _ => rfl) h1 h2 (fun F hR => ev_run_ok hR (Or.inl rfl) jtX1_init (ev_no5 (by decide +kernel)) 4000 0 _ [] (ev_z S) D h3)
def tbX6_init : List (Nat × ev_Jn) := [(0, (0, (.aload_n 0, 1, 0, 0, 0), 0, 0, 0)), (1, (12, (.invokespecial 3, 3, 0, 0, 0), 0, 0, 0)), (4, (0, (.aload_n 0, 1, 0, 0, 0), 0, 0, 0)), (5, (0, (.iconst 0, 1, 0, 0, 0), 0, 0, 0)), (6, (0, (.putfield 9, 3, 6, 0, 0), 0, 0, 0)), (9, (0, (.aload_n 0, 1, 0, 0, 0), 0, 0, 0)), (10, (0, (.iconst 0, 1, 0, 0, 0), 0, 0, 0)), (11, (0, (.iload_n 1, 1, 0, 0, 0), 0, 0, 0)), (12, (10, (.invokestatic 15, 3, 0, 0, 0), 0, 2, 1)), (15, (9, (.putfield 21, 3, 0, 0, 0), 6, 1, 0)), (18, (0, (.aload_n 0, 1, 0, 0, 0), 0, 0, 0)), (19, (0, (.aload_n 0, 1, 0, 0, 0), 0, 0, 0)), (20, (0, (.getfield 21, 3, 6, 1, 0), 0, 0, 0)), (23, (0, (.iconst 3, 1, 0, 0, 3), 0, 0, 0)), (24, (0, (.imul, 1, 0, 0, 0), 0, 0, 0)), (25, (7, (.newarray .int, 2, 0, 0, 0), 0, 0, 0)), (27, (9, (.putfield 24, 3, 0, 0, 0), 6, 2, 0)), (30, (4, (.return_, 1, 0, 0, 0), 0, 0, 0))]
def cfX6_init : ev_Cf := fun k vs S D => match k with
  | 0 => wJ9_max vs S D
  | _ => none
def gX6_init (vs : List Value) (S : ev_S) (D : ev_D) : Option ev_Rs := bif vs.all ev_plain && decide (vs.length ≤ 2) then ev_run tbX6_init cfX6_init 4000 0 (vs.map some ++ List.replicate (2 - vs.length) none) [] (ev_z S) D else none
def tnX6_init : List (Nat × ev_Jn) := [(1, (12, (.invokespecial 3, 3, 0, 0, 0), 0, 0, 0)), (12, (10, (.invokestatic 15, 3, 0, 0, 0), 0, 2, 1)), (15, (9, (.putfield 21, 3, 0, 0, 0), 6, 1, 0)), (25, (7, (.newarray .int, 2, 0, 0, 0), 0, 0, 0)), (27, (9, (.putfield 24, 3, 0, 0, 0), 6, 2, 0)), (30, (4, (.return_, 1, 0, 0, 0), 0, 0, 0))]
set_option maxRecDepth 100000 in
theorem jX6_init_1 : ev_jok cfX6_init RX6 cX6_init 2 1 true 1 (12, (.invokespecial 3, 3, 0, 0, 0), 0, 0, 0) := ⟨3, (mt_1 (List.mem_of_getElem? (i := 185) rfl)), ac_oi, ac_oc, by decide, by decide +kernel⟩
set_option maxRecDepth 100000 in
theorem jX6_init_12 : ev_jok cfX6_init RX6 cX6_init 2 1 true 12 (10, (.invokestatic 15, 3, 0, 0, 0), 0, 2, 1) := ⟨15, yJ9_max_7cf53, cJ9_max_7cf53, 2, (some .int), 0, YJ9_max, (Or.inl (mt_1 (List.mem_of_getElem? (i := 186) rfl))), by decide, fun _ _ => rfl, by decide +kernel, fun vs S D v S2 D2 h => mwJ9_max h⟩
set_option maxRecDepth 100000 in
theorem jX6_init_15 : ev_jok cfX6_init RX6 cX6_init 2 1 true 15 (9, (.putfield 21, 3, 0, 0, 0), 6, 1, 0) := ⟨21, (RX6, TX6, 3), rfl, by decide, (mt_1 (List.mem_of_getElem? (i := 192) rfl)), Or.inr ⟨rfl, rfl, rfl⟩, by decide +kernel⟩
set_option maxRecDepth 100000 in
theorem jX6_init_25 : ev_jok cfX6_init RX6 cX6_init 2 1 true 25 (7, (.newarray .int, 2, 0, 0, 0), 0, 0, 0) := ⟨ac_int, by decide +kernel⟩
set_option maxRecDepth 100000 in
theorem jX6_init_27 : ev_jok cfX6_init RX6 cX6_init 2 1 true 27 (9, (.putfield 24, 3, 0, 0, 0), 6, 2, 0) := ⟨24, (RX6, TX6, 3), rfl, by decide, (mt_1 (List.mem_of_getElem? (i := 193) rfl)), Or.inr ⟨rfl, rfl, rfl⟩, by decide +kernel⟩
set_option maxRecDepth 100000 in
theorem jX6_init_30 : ev_jok cfX6_init RX6 cX6_init 2 1 true 30 (4, (.return_, 1, 0, 0, 0), 0, 0, 0) := by decide +kernel
set_option maxRecDepth 100000 in
theorem jnX6_init : ∀ e ∈ tnX6_init, ev_jok cfX6_init RX6 cX6_init 2 1 true e.1 e.2 := List.forall_mem_cons.mpr ⟨jX6_init_1, List.forall_mem_cons.mpr ⟨jX6_init_12, List.forall_mem_cons.mpr ⟨jX6_init_15, List.forall_mem_cons.mpr ⟨jX6_init_25, List.forall_mem_cons.mpr ⟨jX6_init_27, List.forall_mem_cons.mpr ⟨jX6_init_30, fun _ h => absurd h List.not_mem_nil⟩⟩⟩⟩⟩⟩
set_option maxRecDepth 100000 in
theorem jtX6_init : ∀ e ∈ tbX6_init, ev_jok cfX6_init RX6 cX6_init 2 1 true e.1 e.2 := ev_tball (lk := lk_RX6) lkok_RX6 (by decide +kernel) (by decide +kernel) jnX6_init
set_option maxRecDepth 100000 in
theorem mgX6_init {vs : List Value} {S : ev_S} {D : ev_D} {v : Int32} {S2 : ev_S} {D2 : ev_D} (h : gX6_init vs S D = some (v, S2, D2)) : ev_M 1 (sC S2) (sA S2) yX6_init cX6_init 2 none vs S D S2 (v, D2) := by
  unfold gX6_init at h
  obtain ⟨h1, h2, h3⟩ := ev_bif h
  exact ev_met (ini := true) (plainFor_of_name (by decide)) (fun _ => rfl) h1 h2 (fun F hR => ev_run_ok hR (Or.inl rfl) jtX6_init (ev_no5 (by decide +kernel)) 4000 0 _ [] (ev_z S) D h3)
def tbX7_init : List (Nat × ev_Jn) := [(0, (0, (.aload_n 0, 1, 0, 0, 0), 0, 0, 0)), (1, (12, (.invokespecial 3, 3, 0, 0, 0), 0, 0, 0)), (4, (0, (.aload_n 0, 1, 0, 0, 0), 0, 0, 0)), (5, (6, (.new 9, 3, 0, 0, 0), 1, 8, 0)), (8, (0, (.dup, 1, 0, 0, 0), 0, 0, 0)), (9, (11, (.invokespecial 11, 3, 0, 0, 0), 0, 0, 0)), (12, (9, (.putfield 12, 3, 0, 0, 0), 7, 0, 0)), (15, (0, (.aload_n 0, 1, 0, 0, 0), 0, 0, 0)), (16, (6, (.new 18, 3, 0, 0, 0), 6, 3, 0)), (19, (0, (.dup, 1, 0, 0, 0), 0, 0, 0)), (20, (0, (.bipush 16, 2, 0, 0, 16), 0, 0, 0)), (22, (11, (.invokespecial 20, 3, 0, 0, 0), 1, 1, 0)), (25, (9, (.putfield 23, 3, 0, 0, 0), 7, 1, 0)), (28, (0, (.aload_n 0, 1, 0, 0, 0), 0, 0, 0)), (29, (6, (.new 18, 3, 0, 0, 0), 6, 3, 0)), (32, (0, (.dup, 1, 0, 0, 0), 0, 0, 0)), (33, (0, (.bipush 16, 2, 0, 0, 16), 0, 0, 0)), (35, (11, (.invokespecial 20, 3, 0, 0, 0), 1, 1, 0)), (38, (9, (.putfield 27, 3, 0, 0, 0), 7, 2, 0)), (41, (0, (.aload_n 0, 1, 0, 0, 0), 0, 0, 0)), (42, (6, (.new 18, 3, 0, 0, 0), 6, 3, 0)), (45, (0, (.dup, 1, 0, 0, 0), 0, 0, 0)), (46, (0, (.bipush 16, 2, 0, 0, 16), 0, 0, 0)), (48, (11, (.invokespecial 20, 3, 0, 0, 0), 1, 1, 0)), (51, (9, (.putfield 30, 3, 0, 0, 0), 7, 3, 0)), (54, (4, (.return_, 1, 0, 0, 0), 0, 0, 0))]
def cfX7_init : ev_Cf := fun k vs S D => match k with
  | 0 => gX1_init vs S D
  | 1 => gX6_init vs S D
  | _ => none
def gX7_init (vs : List Value) (S : ev_S) (D : ev_D) : Option ev_Rs := bif vs.all ev_plain && decide (vs.length ≤ 1) then ev_run tbX7_init cfX7_init 4000 0 (vs.map some ++ List.replicate (1 - vs.length) none) [] (ev_z S) D else none
def tnX7_init : List (Nat × ev_Jn) := [(1, (12, (.invokespecial 3, 3, 0, 0, 0), 0, 0, 0)), (5, (6, (.new 9, 3, 0, 0, 0), 1, 8, 0)), (9, (11, (.invokespecial 11, 3, 0, 0, 0), 0, 0, 0)), (12, (9, (.putfield 12, 3, 0, 0, 0), 7, 0, 0)), (16, (6, (.new 18, 3, 0, 0, 0), 6, 3, 0)), (22, (11, (.invokespecial 20, 3, 0, 0, 0), 1, 1, 0)), (25, (9, (.putfield 23, 3, 0, 0, 0), 7, 1, 0)), (29, (6, (.new 18, 3, 0, 0, 0), 6, 3, 0)), (35, (11, (.invokespecial 20, 3, 0, 0, 0), 1, 1, 0)), (38, (9, (.putfield 27, 3, 0, 0, 0), 7, 2, 0)), (42, (6, (.new 18, 3, 0, 0, 0), 6, 3, 0)), (48, (11, (.invokespecial 20, 3, 0, 0, 0), 1, 1, 0)), (51, (9, (.putfield 30, 3, 0, 0, 0), 7, 3, 0)), (54, (4, (.return_, 1, 0, 0, 0), 0, 0, 0))]
set_option maxRecDepth 100000 in
theorem jX7_init_1 : ev_jok cfX7_init RX7 cX7_init 1 2 true 1 (12, (.invokespecial 3, 3, 0, 0, 0), 0, 0, 0) := ⟨3, (mt_1 (List.mem_of_getElem? (i := 147) rfl)), ac_oi, ac_oc, by decide, by decide +kernel⟩
set_option maxRecDepth 100000 in
theorem jX7_init_5 : ev_jok cfX7_init RX7 cX7_init 1 2 true 5 (6, (.new 9, 3, 0, 0, 0), 1, 8, 0) := ⟨9, (RX1, TX1, 8), rfl, rfl, (mt_1 (List.mem_of_getElem? (i := 148) rfl)), (mt_1 (List.mem_of_getElem? (i := 149) rfl)), (mt_1 (List.mem_of_getElem? (i := 8) rfl)), by decide +kernel⟩
set_option maxRecDepth 100000 in
theorem jX7_init_9 : ev_jok cfX7_init RX7 cX7_init 1 2 true 9 (11, (.invokespecial 11, 3, 0, 0, 0), 0, 0, 0) := ⟨11, yX1_init, cX1_init, 1, 1, YcX1_init, (Or.inr ⟨"DeafBells", (mt_1 (List.mem_of_getElem? (i := 150) rfl))⟩), by decide, by decide +kernel, fun vs S D v S2 D2 h => mgX1_init h⟩
set_option maxRecDepth 100000 in
theorem jX7_init_12 : ev_jok cfX7_init RX7 cX7_init 1 2 true 12 (9, (.putfield 12, 3, 0, 0, 0), 7, 0, 0) := ⟨12, (RX7, TX7, 4), rfl, by decide, (mt_1 (List.mem_of_getElem? (i := 201) rfl)), Or.inr ⟨rfl, rfl, rfl⟩, by decide +kernel⟩
set_option maxRecDepth 100000 in
theorem jX7_init_16 : ev_jok cfX7_init RX7 cX7_init 1 2 true 16 (6, (.new 18, 3, 0, 0, 0), 6, 3, 0) := ⟨18, (RX6, TX6, 3), rfl, rfl, (mt_1 (List.mem_of_getElem? (i := 180) rfl)), (mt_1 (List.mem_of_getElem? (i := 181) rfl)), (mt_1 (List.mem_of_getElem? (i := 9) rfl)), by decide +kernel⟩
set_option maxRecDepth 100000 in
theorem jX7_init_22 : ev_jok cfX7_init RX7 cX7_init 1 2 true 22 (11, (.invokespecial 20, 3, 0, 0, 0), 1, 1, 0) := ⟨20, yX6_init, cX6_init, 2, 1, YcX6_init, (Or.inl (mt_1 (List.mem_of_getElem? (i := 182) rfl))), by decide, by decide +kernel, fun vs S D v S2 D2 h => mgX6_init h⟩
set_option maxRecDepth 100000 in
theorem jX7_init_25 : ev_jok cfX7_init RX7 cX7_init 1 2 true 25 (9, (.putfield 23, 3, 0, 0, 0), 7, 1, 0) := ⟨23, (RX7, TX7, 4), rfl, by decide, (mt_1 (List.mem_of_getElem? (i := 205) rfl)), Or.inr ⟨rfl, rfl, rfl⟩, by decide +kernel⟩
set_option maxRecDepth 100000 in
theorem jX7_init_29 : ev_jok cfX7_init RX7 cX7_init 1 2 true 29 (6, (.new 18, 3, 0, 0, 0), 6, 3, 0) := ⟨18, (RX6, TX6, 3), rfl, rfl, (mt_1 (List.mem_of_getElem? (i := 180) rfl)), (mt_1 (List.mem_of_getElem? (i := 181) rfl)), (mt_1 (List.mem_of_getElem? (i := 9) rfl)), by decide +kernel⟩
set_option maxRecDepth 100000 in
theorem jX7_init_35 : ev_jok cfX7_init RX7 cX7_init 1 2 true 35 (11, (.invokespecial 20, 3, 0, 0, 0), 1, 1, 0) := ⟨20, yX6_init, cX6_init, 2, 1, YcX6_init, (Or.inl (mt_1 (List.mem_of_getElem? (i := 182) rfl))), by decide, by decide +kernel, fun vs S D v S2 D2 h => mgX6_init h⟩
set_option maxRecDepth 100000 in
theorem jX7_init_38 : ev_jok cfX7_init RX7 cX7_init 1 2 true 38 (9, (.putfield 27, 3, 0, 0, 0), 7, 2, 0) := ⟨27, (RX7, TX7, 4), rfl, by decide, (mt_1 (List.mem_of_getElem? (i := 208) rfl)), Or.inr ⟨rfl, rfl, rfl⟩, by decide +kernel⟩
set_option maxRecDepth 100000 in
theorem jX7_init_42 : ev_jok cfX7_init RX7 cX7_init 1 2 true 42 (6, (.new 18, 3, 0, 0, 0), 6, 3, 0) := ⟨18, (RX6, TX6, 3), rfl, rfl, (mt_1 (List.mem_of_getElem? (i := 180) rfl)), (mt_1 (List.mem_of_getElem? (i := 181) rfl)), (mt_1 (List.mem_of_getElem? (i := 9) rfl)), by decide +kernel⟩
set_option maxRecDepth 100000 in
theorem jX7_init_48 : ev_jok cfX7_init RX7 cX7_init 1 2 true 48 (11, (.invokespecial 20, 3, 0, 0, 0), 1, 1, 0) := ⟨20, yX6_init, cX6_init, 2, 1, YcX6_init, (Or.inl (mt_1 (List.mem_of_getElem? (i := 182) rfl))), by decide, by decide +kernel, fun vs S D v S2 D2 h => mgX6_init h⟩
set_option maxRecDepth 100000 in
theorem jX7_init_51 : ev_jok cfX7_init RX7 cX7_init 1 2 true 51 (9, (.putfield 30, 3, 0, 0, 0), 7, 3, 0) := ⟨30, (RX7, TX7, 4), rfl, by decide, (mt_1 (List.mem_of_getElem? (i := 212) rfl)), Or.inr ⟨rfl, rfl, rfl⟩, by decide +kernel⟩
set_option maxRecDepth 100000 in
theorem jX7_init_54 : ev_jok cfX7_init RX7 cX7_init 1 2 true 54 (4, (.return_, 1, 0, 0, 0), 0, 0, 0) := by decide +kernel
set_option maxRecDepth 100000 in
theorem jnX7_init : ∀ e ∈ tnX7_init, ev_jok cfX7_init RX7 cX7_init 1 2 true e.1 e.2 := List.forall_mem_cons.mpr ⟨jX7_init_1, List.forall_mem_cons.mpr ⟨jX7_init_5, List.forall_mem_cons.mpr ⟨jX7_init_9, List.forall_mem_cons.mpr ⟨jX7_init_12, List.forall_mem_cons.mpr ⟨jX7_init_16, List.forall_mem_cons.mpr ⟨jX7_init_22, List.forall_mem_cons.mpr ⟨jX7_init_25, List.forall_mem_cons.mpr ⟨jX7_init_29, List.forall_mem_cons.mpr ⟨jX7_init_35, List.forall_mem_cons.mpr ⟨jX7_init_38, List.forall_mem_cons.mpr ⟨jX7_init_42, List.forall_mem_cons.mpr ⟨jX7_init_48, List.forall_mem_cons.mpr ⟨jX7_init_51, List.forall_mem_cons.mpr ⟨jX7_init_54, fun _ h => absurd h List.not_mem_nil⟩⟩⟩⟩⟩⟩⟩⟩⟩⟩⟩⟩⟩⟩
set_option maxRecDepth 100000 in
theorem jtX7_init : ∀ e ∈ tbX7_init, ev_jok cfX7_init RX7 cX7_init 1 2 true e.1 e.2 := ev_tball (lk := lk_RX7) lkok_RX7 (by decide +kernel) (by decide +kernel) jnX7_init
set_option maxRecDepth 100000 in
theorem mgX7_init {vs : List Value} {S : ev_S} {D : ev_D} {v : Int32} {S2 : ev_S} {D2 : ev_D} (h : gX7_init vs S D = some (v, S2, D2)) : ev_M 2 (sC S2) (sA S2) yX7_init cX7_init 1 none vs S D S2 (v, D2) := by
  unfold gX7_init at h
  obtain ⟨h1, h2, h3⟩ := ev_bif h
  exact ev_met (ini := true) (plainFor_of_name (by decide)) (fun _ => rfl) h1 h2 (fun F hR => ev_run_ok hR (Or.inl rfl) jtX7_init (ev_no5 (by decide +kernel)) 4000 0 _ [] (ev_z S) D h3)
def tbX8_init : List (Nat × ev_Jn) := [(0, (0, (.aload_n 0, 1, 0, 0, 0), 0, 0, 0)), (1, (12, (.invokespecial 3, 3, 0, 0, 0), 0, 0, 0)), (4, (0, (.aload_n 0, 1, 0, 0, 0), 0, 0, 0)), (5, (6, (.new 9, 3, 0, 0, 0), 6, 3, 0)), (8, (0, (.dup, 1, 0, 0, 0), 0, 0, 0)), (9, (0, (.bipush 10, 2, 0, 0, 10), 0, 0, 0)), (11, (11, (.invokespecial 11, 3, 0, 0, 0), 0, 1, 0)), (14, (9, (.putfield 14, 3, 0, 0, 0), 8, 0, 0)), (17, (0, (.aload_n 0, 1, 0, 0, 0), 0, 0, 0)), (18, (6, (.new 9, 3, 0, 0, 0), 6, 3, 0)), (21, (0, (.dup, 1, 0, 0, 0), 0, 0, 0)), (22, (0, (.bipush 6, 2, 0, 0, 6), 0, 0, 0)), (24, (11, (.invokespecial 11, 3, 0, 0, 0), 0, 1, 0)), (27, (9, (.putfield 20, 3, 0, 0, 0), 8, 1, 0)), (30, (0, (.aload_n 0, 1, 0, 0, 0), 0, 0, 0)), (31, (6, (.new 9, 3, 0, 0, 0), 6, 3, 0)), (34, (0, (.dup, 1, 0, 0, 0), 0, 0, 0)), (35, (0, (.bipush 16, 2, 0, 0, 16), 0, 0, 0)), (37, (11, (.invokespecial 11, 3, 0, 0, 0), 0, 1, 0)), (40, (9, (.putfield 23, 3, 0, 0, 0), 8, 2, 0)), (43, (0, (.aload_n 0, 1, 0, 0, 0), 0, 0, 0)), (44, (6, (.new 9, 3, 0, 0, 0), 6, 3, 0)), (47, (0, (.dup, 1, 0, 0, 0), 0, 0, 0)), (48, (0, (.bipush 24, 2, 0, 0, 24), 0, 0, 0)), (50, (11, (.invokespecial 11, 3, 0, 0, 0), 0, 1, 0)), (53, (9, (.putfield 26, 3, 0, 0, 0), 8, 3, 0)), (56, (0, (.aload_n 0, 1, 0, 0, 0), 0, 0, 0)), (57, (6, (.new 9, 3, 0, 0, 0), 6, 3, 0)), (60, (0, (.dup, 1, 0, 0, 0), 0, 0, 0)), (61, (0, (.bipush 20, 2, 0, 0, 20), 0, 0, 0)), (63, (11, (.invokespecial 11, 3, 0, 0, 0), 0, 1, 0)), (66, (9, (.putfield 29, 3, 0, 0, 0), 8, 4, 0)), (69, (0, (.aload_n 0, 1, 0, 0, 0), 0, 0, 0)), (70, (0, (.bipush 80, 2, 0, 0, 80), 0, 0, 0)), (72, (7, (.newarray .int, 2, 0, 0, 0), 0, 0, 0)), (74, (9, (.putfield 32, 3, 0, 0, 0), 8, 5, 0)), (77, (0, (.aload_n 0, 1, 0, 0, 0), 0, 0, 0)), (78, (0, (.bipush 10, 2, 0, 0, 10), 0, 0, 0)), (80, (7, (.newarray .int, 2, 0, 0, 0), 0, 0, 0)), (82, (9, (.putfield 36, 3, 0, 0, 0), 8, 6, 0)), (85, (4, (.return_, 1, 0, 0, 0), 0, 0, 0))]
def cfX8_init : ev_Cf := fun k vs S D => match k with
  | 0 => gX6_init vs S D
  | _ => none
def gX8_init (vs : List Value) (S : ev_S) (D : ev_D) : Option ev_Rs := bif vs.all ev_plain && decide (vs.length ≤ 1) then ev_run tbX8_init cfX8_init 4000 0 (vs.map some ++ List.replicate (1 - vs.length) none) [] (ev_z S) D else none
def tnX8_init : List (Nat × ev_Jn) := [(1, (12, (.invokespecial 3, 3, 0, 0, 0), 0, 0, 0)), (5, (6, (.new 9, 3, 0, 0, 0), 6, 3, 0)), (11, (11, (.invokespecial 11, 3, 0, 0, 0), 0, 1, 0)), (14, (9, (.putfield 14, 3, 0, 0, 0), 8, 0, 0)), (18, (6, (.new 9, 3, 0, 0, 0), 6, 3, 0)), (24, (11, (.invokespecial 11, 3, 0, 0, 0), 0, 1, 0)), (27, (9, (.putfield 20, 3, 0, 0, 0), 8, 1, 0)), (31, (6, (.new 9, 3, 0, 0, 0), 6, 3, 0)), (37, (11, (.invokespecial 11, 3, 0, 0, 0), 0, 1, 0)), (40, (9, (.putfield 23, 3, 0, 0, 0), 8, 2, 0)), (44, (6, (.new 9, 3, 0, 0, 0), 6, 3, 0)), (50, (11, (.invokespecial 11, 3, 0, 0, 0), 0, 1, 0)), (53, (9, (.putfield 26, 3, 0, 0, 0), 8, 3, 0)), (57, (6, (.new 9, 3, 0, 0, 0), 6, 3, 0)), (63, (11, (.invokespecial 11, 3, 0, 0, 0), 0, 1, 0)), (66, (9, (.putfield 29, 3, 0, 0, 0), 8, 4, 0)), (72, (7, (.newarray .int, 2, 0, 0, 0), 0, 0, 0)), (74, (9, (.putfield 32, 3, 0, 0, 0), 8, 5, 0)), (80, (7, (.newarray .int, 2, 0, 0, 0), 0, 0, 0)), (82, (9, (.putfield 36, 3, 0, 0, 0), 8, 6, 0)), (85, (4, (.return_, 1, 0, 0, 0), 0, 0, 0))]
set_option maxRecDepth 100000 in
theorem jX8_init_1 : ev_jok cfX8_init RX8 cX8_init 1 2 true 1 (12, (.invokespecial 3, 3, 0, 0, 0), 0, 0, 0) := ⟨3, (mt_1 (List.mem_of_getElem? (i := 230) rfl)), ac_oi, ac_oc, by decide, by decide +kernel⟩
set_option maxRecDepth 100000 in
theorem jX8_init_5 : ev_jok cfX8_init RX8 cX8_init 1 2 true 5 (6, (.new 9, 3, 0, 0, 0), 6, 3, 0) := ⟨9, (RX6, TX6, 3), rfl, rfl, (mt_1 (List.mem_of_getElem? (i := 231) rfl)), (mt_1 (List.mem_of_getElem? (i := 181) rfl)), (mt_1 (List.mem_of_getElem? (i := 9) rfl)), by decide +kernel⟩
set_option maxRecDepth 100000 in
theorem jX8_init_11 : ev_jok cfX8_init RX8 cX8_init 1 2 true 11 (11, (.invokespecial 11, 3, 0, 0, 0), 0, 1, 0) := ⟨11, yX6_init, cX6_init, 2, 1, YcX6_init, (Or.inl (mt_1 (List.mem_of_getElem? (i := 232) rfl))), by decide, by decide +kernel, fun vs S D v S2 D2 h => mgX6_init h⟩
set_option maxRecDepth 100000 in
theorem jX8_init_14 : ev_jok cfX8_init RX8 cX8_init 1 2 true 14 (9, (.putfield 14, 3, 0, 0, 0), 8, 0, 0) := ⟨14, (RX8, TX8, 7), rfl, by decide, (mt_1 (List.mem_of_getElem? (i := 233) rfl)), Or.inr ⟨rfl, rfl, rfl⟩, by decide +kernel⟩
set_option maxRecDepth 100000 in
theorem jX8_init_18 : ev_jok cfX8_init RX8 cX8_init 1 2 true 18 (6, (.new 9, 3, 0, 0, 0), 6, 3, 0) := ⟨9, (RX6, TX6, 3), rfl, rfl, (mt_1 (List.mem_of_getElem? (i := 231) rfl)), (mt_1 (List.mem_of_getElem? (i := 181) rfl)), (mt_1 (List.mem_of_getElem? (i := 9) rfl)), by decide +kernel⟩
set_option maxRecDepth 100000 in
theorem jX8_init_24 : ev_jok cfX8_init RX8 cX8_init 1 2 true 24 (11, (.invokespecial 11, 3, 0, 0, 0), 0, 1, 0) := ⟨11, yX6_init, cX6_init, 2, 1, YcX6_init, (Or.inl (mt_1 (List.mem_of_getElem? (i := 232) rfl))), by decide, by decide +kernel, fun vs S D v S2 D2 h => mgX6_init h⟩
set_option maxRecDepth 100000 in
theorem jX8_init_27 : ev_jok cfX8_init RX8 cX8_init 1 2 true 27 (9, (.putfield 20, 3, 0, 0, 0), 8, 1, 0) := ⟨20, (RX8, TX8, 7), rfl, by decide, (mt_1 (List.mem_of_getElem? (i := 236) rfl)), Or.inr ⟨rfl, rfl, rfl⟩, by decide +kernel⟩
set_option maxRecDepth 100000 in
theorem jX8_init_31 : ev_jok cfX8_init RX8 cX8_init 1 2 true 31 (6, (.new 9, 3, 0, 0, 0), 6, 3, 0) := ⟨9, (RX6, TX6, 3), rfl, rfl, (mt_1 (List.mem_of_getElem? (i := 231) rfl)), (mt_1 (List.mem_of_getElem? (i := 181) rfl)), (mt_1 (List.mem_of_getElem? (i := 9) rfl)), by decide +kernel⟩
set_option maxRecDepth 100000 in
theorem jX8_init_37 : ev_jok cfX8_init RX8 cX8_init 1 2 true 37 (11, (.invokespecial 11, 3, 0, 0, 0), 0, 1, 0) := ⟨11, yX6_init, cX6_init, 2, 1, YcX6_init, (Or.inl (mt_1 (List.mem_of_getElem? (i := 232) rfl))), by decide, by decide +kernel, fun vs S D v S2 D2 h => mgX6_init h⟩
set_option maxRecDepth 100000 in
theorem jX8_init_40 : ev_jok cfX8_init RX8 cX8_init 1 2 true 40 (9, (.putfield 23, 3, 0, 0, 0), 8, 2, 0) := ⟨23, (RX8, TX8, 7), rfl, by decide, (mt_1 (List.mem_of_getElem? (i := 239) rfl)), Or.inr ⟨rfl, rfl, rfl⟩, by decide +kernel⟩
set_option maxRecDepth 100000 in
theorem jX8_init_44 : ev_jok cfX8_init RX8 cX8_init 1 2 true 44 (6, (.new 9, 3, 0, 0, 0), 6, 3, 0) := ⟨9, (RX6, TX6, 3), rfl, rfl, (mt_1 (List.mem_of_getElem? (i := 231) rfl)), (mt_1 (List.mem_of_getElem? (i := 181) rfl)), (mt_1 (List.mem_of_getElem? (i := 9) rfl)), by decide +kernel⟩
set_option maxRecDepth 100000 in
theorem jX8_init_50 : ev_jok cfX8_init RX8 cX8_init 1 2 true 50 (11, (.invokespecial 11, 3, 0, 0, 0), 0, 1, 0) := ⟨11, yX6_init, cX6_init, 2, 1, YcX6_init, (Or.inl (mt_1 (List.mem_of_getElem? (i := 232) rfl))), by decide, by decide +kernel, fun vs S D v S2 D2 h => mgX6_init h⟩
set_option maxRecDepth 100000 in
theorem jX8_init_53 : ev_jok cfX8_init RX8 cX8_init 1 2 true 53 (9, (.putfield 26, 3, 0, 0, 0), 8, 3, 0) := ⟨26, (RX8, TX8, 7), rfl, by decide, (mt_2 (List.mem_of_getElem? (i := 2) rfl)), Or.inr ⟨rfl, rfl, rfl⟩, by decide +kernel⟩
set_option maxRecDepth 100000 in
theorem jX8_init_57 : ev_jok cfX8_init RX8 cX8_init 1 2 true 57 (6, (.new 9, 3, 0, 0, 0), 6, 3, 0) := ⟨9, (RX6, TX6, 3), rfl, rfl, (mt_1 (List.mem_of_getElem? (i := 231) rfl)), (mt_1 (List.mem_of_getElem? (i := 181) rfl)), (mt_1 (List.mem_of_getElem? (i := 9) rfl)), by decide +kernel⟩
set_option maxRecDepth 100000 in
theorem jX8_init_63 : ev_jok cfX8_init RX8 cX8_init 1 2 true 63 (11, (.invokespecial 11, 3, 0, 0, 0), 0, 1, 0) := ⟨11, yX6_init, cX6_init, 2, 1, YcX6_init, (Or.inl (mt_1 (List.mem_of_getElem? (i := 232) rfl))), by decide, by decide +kernel, fun vs S D v S2 D2 h => mgX6_init h⟩
set_option maxRecDepth 100000 in
theorem jX8_init_66 : ev_jok cfX8_init RX8 cX8_init 1 2 true 66 (9, (.putfield 29, 3, 0, 0, 0), 8, 4, 0) := ⟨29, (RX8, TX8, 7), rfl, by decide, (mt_2 (List.mem_of_getElem? (i := 5) rfl)), Or.inr ⟨rfl, rfl, rfl⟩, by decide +kernel⟩
set_option maxRecDepth 100000 in
theorem jX8_init_72 : ev_jok cfX8_init RX8 cX8_init 1 2 true 72 (7, (.newarray .int, 2, 0, 0, 0), 0, 0, 0) := ⟨ac_int, by decide +kernel⟩
set_option maxRecDepth 100000 in
theorem jX8_init_74 : ev_jok cfX8_init RX8 cX8_init 1 2 true 74 (9, (.putfield 32, 3, 0, 0, 0), 8, 5, 0) := ⟨32, (RX8, TX8, 7), rfl, by decide, (mt_2 (List.mem_of_getElem? (i := 8) rfl)), Or.inr ⟨rfl, rfl, rfl⟩, by decide +kernel⟩
set_option maxRecDepth 100000 in
theorem jX8_init_80 : ev_jok cfX8_init RX8 cX8_init 1 2 true 80 (7, (.newarray .int, 2, 0, 0, 0), 0, 0, 0) := ⟨ac_int, by decide +kernel⟩
set_option maxRecDepth 100000 in
theorem jX8_init_82 : ev_jok cfX8_init RX8 cX8_init 1 2 true 82 (9, (.putfield 36, 3, 0, 0, 0), 8, 6, 0) := ⟨36, (RX8, TX8, 7), rfl, by decide, (mt_2 (List.mem_of_getElem? (i := 10) rfl)), Or.inr ⟨rfl, rfl, rfl⟩, by decide +kernel⟩
set_option maxRecDepth 100000 in
theorem jX8_init_85 : ev_jok cfX8_init RX8 cX8_init 1 2 true 85 (4, (.return_, 1, 0, 0, 0), 0, 0, 0) := by decide +kernel
set_option maxRecDepth 100000 in
theorem jnX8_init : ∀ e ∈ tnX8_init, ev_jok cfX8_init RX8 cX8_init 1 2 true e.1 e.2 := List.forall_mem_cons.mpr ⟨jX8_init_1, List.forall_mem_cons.mpr ⟨jX8_init_5, List.forall_mem_cons.mpr ⟨jX8_init_11, List.forall_mem_cons.mpr ⟨jX8_init_14, List.forall_mem_cons.mpr ⟨jX8_init_18, List.forall_mem_cons.mpr ⟨jX8_init_24, List.forall_mem_cons.mpr ⟨jX8_init_27, List.forall_mem_cons.mpr ⟨jX8_init_31, List.forall_mem_cons.mpr ⟨jX8_init_37, List.forall_mem_cons.mpr ⟨jX8_init_40, List.forall_mem_cons.mpr ⟨jX8_init_44, List.forall_mem_cons.mpr ⟨jX8_init_50, List.forall_mem_cons.mpr ⟨jX8_init_53, List.forall_mem_cons.mpr ⟨jX8_init_57, List.forall_mem_cons.mpr ⟨jX8_init_63, List.forall_mem_cons.mpr ⟨jX8_init_66, List.forall_mem_cons.mpr ⟨jX8_init_72, List.forall_mem_cons.mpr ⟨jX8_init_74, List.forall_mem_cons.mpr ⟨jX8_init_80, List.forall_mem_cons.mpr ⟨jX8_init_82, List.forall_mem_cons.mpr ⟨jX8_init_85, fun _ h => absurd h List.not_mem_nil⟩⟩⟩⟩⟩⟩⟩⟩⟩⟩⟩⟩⟩⟩⟩⟩⟩⟩⟩⟩⟩
set_option maxRecDepth 100000 in
theorem jtX8_init : ∀ e ∈ tbX8_init, ev_jok cfX8_init RX8 cX8_init 1 2 true e.1 e.2 := ev_tball (lk := lk_RX8) lkok_RX8 (by decide +kernel) (by decide +kernel) jnX8_init
set_option maxRecDepth 100000 in
theorem mgX8_init {vs : List Value} {S : ev_S} {D : ev_D} {v : Int32} {S2 : ev_S} {D2 : ev_D} (h : gX8_init vs S D = some (v, S2, D2)) : ev_M 2 (sC S2) (sA S2) yX8_init cX8_init 1 none vs S D S2 (v, D2) := by
  unfold gX8_init at h
  obtain ⟨h1, h2, h3⟩ := ev_bif h
  exact ev_met (ini := true) (plainFor_of_name (by decide)) (fun _ => rfl) h1 h2 (fun F hR => ev_run_ok hR (Or.inl rfl) jtX8_init (ev_no5 (by decide +kernel)) 4000 0 _ [] (ev_z S) D h3)
def tbX10_init : List (Nat × ev_Jn) := [(0, (0, (.aload_n 0, 1, 0, 0, 0), 0, 0, 0)), (1, (12, (.invokespecial 3, 3, 0, 0, 0), 0, 0, 0)), (4, (0, (.aload_n 0, 1, 0, 0, 0), 0, 0, 0)), (5, (6, (.new 9, 3, 0, 0, 0), 9, 14, 0)), (8, (0, (.dup, 1, 0, 0, 0), 0, 0, 0)), (9, (11, (.invokespecial 11, 3, 0, 0, 0), 0, 0, 0)), (12, (9, (.putfield 12, 3, 0, 0, 0), 10, 0, 0)), (15, (0, (.aload_n 0, 1, 0, 0, 0), 0, 0, 0)), (16, (6, (.new 18, 3, 0, 0, 0), 0, 3, 0)), (19, (0, (.dup, 1, 0, 0, 0), 0, 0, 0)), (20, (0, (.sipush 150, 3, 0, 0, 150), 0, 0, 0)), (23, (11, (.invokespecial 20, 3, 0, 0, 0), 1, 1, 0)), (26, (9, (.putfield 23, 3, 0, 0, 0), 10, 1, 0)), (29, (0, (.aload_n 0, 1, 0, 0, 0), 0, 0, 0)), (30, (6, (.new 27, 3, 0, 0, 0), 7, 4, 0)), (33, (0, (.dup, 1, 0, 0, 0), 0, 0, 0)), (34, (11, (.invokespecial 29, 3, 0, 0, 0), 2, 0, 0)), (37, (9, (.putfield 30, 3, 0, 0, 0), 10, 2, 0)), (40, (0, (.aload_n 0, 1, 0, 0, 0), 0, 0, 0)), (41, (6, (.new 34, 3, 0, 0, 0), 8, 7, 0)), (44, (0, (.dup, 1, 0, 0, 0), 0, 0, 0)), (45, (11, (.invokespecial 36, 3, 0, 0, 0), 3, 0, 0)), (48, (9, (.putfield 37, 3, 0, 0, 0), 10, 3, 0)), (51, (4, (.return_, 1, 0, 0, 0), 0, 0, 0))]
def cfX10_init : ev_Cf := fun k vs S D => match k with
  | 0 => gX9_init vs S D
  | 1 => gX0_init vs S D
  | 2 => gX7_init vs S D
  | 3 => gX8_init vs S D
  | _ => none
def gX10_init (vs : List Value) (S : ev_S) (D : ev_D) : Option ev_Rs := bif vs.all ev_plain && decide (vs.length ≤ 1) then ev_run tbX10_init cfX10_init 4000 0 (vs.map some ++ List.replicate (1 - vs.length) none) [] (ev_z S) D else none
def tnX10_init : List (Nat × ev_Jn) := [(1, (12, (.invokespecial 3, 3, 0, 0, 0), 0, 0, 0)), (5, (6, (.new 9, 3, 0, 0, 0), 9, 14, 0)), (9, (11, (.invokespecial 11, 3, 0, 0, 0), 0, 0, 0)), (12, (9, (.putfield 12, 3, 0, 0, 0), 10, 0, 0)), (16, (6, (.new 18, 3, 0, 0, 0), 0, 3, 0)), (23, (11, (.invokespecial 20, 3, 0, 0, 0), 1, 1, 0)), (26, (9, (.putfield 23, 3, 0, 0, 0), 10, 1, 0)), (30, (6, (.new 27, 3, 0, 0, 0), 7, 4, 0)), (34, (11, (.invokespecial 29, 3, 0, 0, 0), 2, 0, 0)), (37, (9, (.putfield 30, 3, 0, 0, 0), 10, 2, 0)), (41, (6, (.new 34, 3, 0, 0, 0), 8, 7, 0)), (45, (11, (.invokespecial 36, 3, 0, 0, 0), 3, 0, 0)), (48, (9, (.putfield 37, 3, 0, 0, 0), 10, 3, 0)), (51, (4, (.return_, 1, 0, 0, 0), 0, 0, 0))]
set_option maxRecDepth 100000 in
theorem jX10_init_1 : ev_jok cfX10_init RX10 cX10_init 1 3 true 1 (12, (.invokespecial 3, 3, 0, 0, 0), 0, 0, 0) := ⟨3, (mt_1 (List.mem_of_getElem? (i := 36) rfl)), ac_oi, ac_oc, by decide, by decide +kernel⟩
set_option maxRecDepth 100000 in
theorem jX10_init_5 : ev_jok cfX10_init RX10 cX10_init 1 3 true 5 (6, (.new 9, 3, 0, 0, 0), 9, 14, 0) := ⟨9, (RX9, TX9, 14), rfl, rfl, (mt_1 (List.mem_of_getElem? (i := 37) rfl)), (mt_1 (List.mem_of_getElem? (i := 38) rfl)), (mt_1 (List.mem_of_getElem? (i := 3) rfl)), by decide +kernel⟩
set_option maxRecDepth 100000 in
theorem jX10_init_9 : ev_jok cfX10_init RX10 cX10_init 1 3 true 9 (11, (.invokespecial 11, 3, 0, 0, 0), 0, 0, 0) := ⟨11, yX9_init, cX9_init, 1, 1, YcX9_init, (Or.inl (mt_1 (List.mem_of_getElem? (i := 39) rfl))), by decide, by decide +kernel, fun vs S D v S2 D2 h => mgX9_init h⟩
set_option maxRecDepth 100000 in
theorem jX10_init_12 : ev_jok cfX10_init RX10 cX10_init 1 3 true 12 (9, (.putfield 12, 3, 0, 0, 0), 10, 0, 0) := ⟨12, (RX10, TX10, 4), rfl, by decide, (mt_2 (List.mem_of_getElem? (i := 28) rfl)), Or.inr ⟨rfl, rfl, rfl⟩, by decide +kernel⟩
set_option maxRecDepth 100000 in
theorem jX10_init_16 : ev_jok cfX10_init RX10 cX10_init 1 3 true 16 (6, (.new 18, 3, 0, 0, 0), 0, 3, 0) := ⟨18, (RX0, TX0, 3), rfl, rfl, (mt_1 (List.mem_of_getElem? (i := 121) rfl)), (mt_1 (List.mem_of_getElem? (i := 122) rfl)), (mt_1 (List.mem_of_getElem? (i := 5) rfl)), by decide +kernel⟩
set_option maxRecDepth 100000 in
theorem jX10_init_23 : ev_jok cfX10_init RX10 cX10_init 1 3 true 23 (11, (.invokespecial 20, 3, 0, 0, 0), 1, 1, 0) := ⟨20, yX0_init, cX0_init, 2, 1, YcX0_init, (Or.inl (mt_1 (List.mem_of_getElem? (i := 123) rfl))), by decide, by decide +kernel, fun vs S D v S2 D2 h => mgX0_init h⟩
set_option maxRecDepth 100000 in
theorem jX10_init_26 : ev_jok cfX10_init RX10 cX10_init 1 3 true 26 (9, (.putfield 23, 3, 0, 0, 0), 10, 1, 0) := ⟨23, (RX10, TX10, 4), rfl, by decide, (mt_2 (List.mem_of_getElem? (i := 30) rfl)), Or.inr ⟨rfl, rfl, rfl⟩, by decide +kernel⟩
set_option maxRecDepth 100000 in
theorem jX10_init_30 : ev_jok cfX10_init RX10 cX10_init 1 3 true 30 (6, (.new 27, 3, 0, 0, 0), 7, 4, 0) := ⟨27, (RX7, TX7, 4), rfl, rfl, (mt_1 (List.mem_of_getElem? (i := 142) rfl)), (mt_1 (List.mem_of_getElem? (i := 143) rfl)), (mt_1 (List.mem_of_getElem? (i := 7) rfl)), by decide +kernel⟩
set_option maxRecDepth 100000 in
theorem jX10_init_34 : ev_jok cfX10_init RX10 cX10_init 1 3 true 34 (11, (.invokespecial 29, 3, 0, 0, 0), 2, 0, 0) := ⟨29, yX7_init, cX7_init, 1, 2, YcX7_init, (Or.inr ⟨"DeafBells", (mt_1 (List.mem_of_getElem? (i := 144) rfl))⟩), by decide, by decide +kernel, fun vs S D v S2 D2 h => mgX7_init h⟩
set_option maxRecDepth 100000 in
theorem jX10_init_37 : ev_jok cfX10_init RX10 cX10_init 1 3 true 37 (9, (.putfield 30, 3, 0, 0, 0), 10, 2, 0) := ⟨30, (RX10, TX10, 4), rfl, by decide, (mt_2 (List.mem_of_getElem? (i := 32) rfl)), Or.inr ⟨rfl, rfl, rfl⟩, by decide +kernel⟩
set_option maxRecDepth 100000 in
theorem jX10_init_41 : ev_jok cfX10_init RX10 cX10_init 1 3 true 41 (6, (.new 34, 3, 0, 0, 0), 8, 7, 0) := ⟨34, (RX8, TX8, 7), rfl, rfl, (mt_1 (List.mem_of_getElem? (i := 225) rfl)), (mt_1 (List.mem_of_getElem? (i := 226) rfl)), (mt_1 (List.mem_of_getElem? (i := 10) rfl)), by decide +kernel⟩
set_option maxRecDepth 100000 in
theorem jX10_init_45 : ev_jok cfX10_init RX10 cX10_init 1 3 true 45 (11, (.invokespecial 36, 3, 0, 0, 0), 3, 0, 0) := ⟨36, yX8_init, cX8_init, 1, 2, YcX8_init, (Or.inr ⟨"DeafBells", (mt_1 (List.mem_of_getElem? (i := 227) rfl))⟩), by decide, by decide +kernel, fun vs S D v S2 D2 h => mgX8_init h⟩
set_option maxRecDepth 100000 in
theorem jX10_init_48 : ev_jok cfX10_init RX10 cX10_init 1 3 true 48 (9, (.putfield 37, 3, 0, 0, 0), 10, 3, 0) := ⟨37, (RX10, TX10, 4), rfl, by decide, (mt_2 (List.mem_of_getElem? (i := 34) rfl)), Or.inr ⟨rfl, rfl, rfl⟩, by decide +kernel⟩
set_option maxRecDepth 100000 in
theorem jX10_init_51 : ev_jok cfX10_init RX10 cX10_init 1 3 true 51 (4, (.return_, 1, 0, 0, 0), 0, 0, 0) := by decide +kernel
set_option maxRecDepth 100000 in
theorem jnX10_init : ∀ e ∈ tnX10_init, ev_jok cfX10_init RX10 cX10_init 1 3 true e.1 e.2 := List.forall_mem_cons.mpr ⟨jX10_init_1, List.forall_mem_cons.mpr ⟨jX10_init_5, List.forall_mem_cons.mpr ⟨jX10_init_9, List.forall_mem_cons.mpr ⟨jX10_init_12, List.forall_mem_cons.mpr ⟨jX10_init_16, List.forall_mem_cons.mpr ⟨jX10_init_23, List.forall_mem_cons.mpr ⟨jX10_init_26, List.forall_mem_cons.mpr ⟨jX10_init_30, List.forall_mem_cons.mpr ⟨jX10_init_34, List.forall_mem_cons.mpr ⟨jX10_init_37, List.forall_mem_cons.mpr ⟨jX10_init_41, List.forall_mem_cons.mpr ⟨jX10_init_45, List.forall_mem_cons.mpr ⟨jX10_init_48, List.forall_mem_cons.mpr ⟨jX10_init_51, fun _ h => absurd h List.not_mem_nil⟩⟩⟩⟩⟩⟩⟩⟩⟩⟩⟩⟩⟩⟩
set_option maxRecDepth 100000 in
theorem jtX10_init : ∀ e ∈ tbX10_init, ev_jok cfX10_init RX10 cX10_init 1 3 true e.1 e.2 := ev_tball (lk := lk_RX10) lkok_RX10 (by decide +kernel) (by decide +kernel) jnX10_init
set_option maxRecDepth 100000 in
theorem mgX10_init {vs : List Value} {S : ev_S} {D : ev_D} {v : Int32} {S2 : ev_S} {D2 : ev_D} (h : gX10_init vs S D = some (v, S2, D2)) : ev_M 3 (sC S2) (sA S2) yX10_init cX10_init 1 none vs S D S2 (v, D2) := by
  unfold gX10_init at h
  obtain ⟨h1, h2, h3⟩ := ev_bif h
  exact ev_met (ini := true) (plainFor_of_name (by decide)) (fun _ => rfl) h1 h2 (fun F hR => ev_run_ok hR (Or.inl rfl) jtX10_init (ev_no5 (by decide +kernel)) 4000 0 _ [] (ev_z S) D h3)
def tbX2_init : List (Nat × ev_Jn) := [(0, (0, (.aload_n 0, 1, 0, 0, 0), 0, 0, 0)), (1, (12, (.invokespecial 3, 3, 0, 0, 0), 0, 0, 0)), (4, (0, (.aload_n 0, 1, 0, 0, 0), 0, 0, 0)), (5, (0, (.iconst 0, 1, 0, 0, 0), 0, 0, 0)), (6, (0, (.putfield 9, 3, 2, 0, 0), 0, 0, 0)), (9, (0, (.aload_n 0, 1, 0, 0, 0), 0, 0, 0)), (10, (0, (.iconst 0, 1, 0, 0, 0), 0, 0, 0)), (11, (0, (.putfield 15, 3, 2, 1, 0), 0, 0, 0)), (14, (0, (.aload_n 0, 1, 0, 0, 0), 0, 0, 0)), (15, (0, (.bipush 6, 2, 0, 0, 6), 0, 0, 0)), (17, (8, (.anewarray 18, 3, 0, 0, 0), 0, 0, 0)), (20, (9, (.putfield 20, 3, 0, 0, 0), 2, 2, 0)), (23, (0, (.aload_n 0, 1, 0, 0, 0), 0, 0, 0)), (24, (0, (.bipush 6, 2, 0, 0, 6), 0, 0, 0)), (26, (7, (.newarray .int, 2, 0, 0, 0), 0, 0, 0)), (28, (9, (.putfield 24, 3, 0, 0, 0), 2, 3, 0)), (31, (0, (.iconst 0, 1, 0, 0, 0), 0, 0, 0)), (32, (0, (.istore_n 1, 1, 0, 0, 0), 0, 0, 0)), (33, (0, (.iload_n 1, 1, 0, 0, 0), 0, 0, 0)), (34, (0, (.bipush 6, 2, 0, 0, 6), 0, 0, 0)), (36, (3, (.if_icmp .ge 22, 3, 0, 0, 0), 58, 3, 0)), (39, (0, (.aload_n 0, 1, 0, 0, 0), 0, 0, 0)), (40, (0, (.getfield 20, 3, 2, 2, 0), 0, 0, 0)), (43, (0, (.iload_n 1, 1, 0, 0, 0), 0, 0, 0)), (44, (6, (.new 18, 3, 0, 0, 0), 9, 14, 0)), (47, (0, (.dup, 1, 0, 0, 0), 0, 0, 0)), (48, (11, (.invokespecial 28, 3, 0, 0, 0), 0, 0, 0)), (51, (13, (.aastore, 1, 0, 0, 0), 0, 0, 0)), (52, (0, (.iinc 1 1, 3, 0, 0, 1), 0, 0, 0)), (55, (1, (.goto (-22), 3, 0, 0, 0), 33, 0, 0)), (58, (4, (.return_, 1, 0, 0, 0), 0, 0, 0))]
def cfX2_init : ev_Cf := fun k vs S D => match k with
  | 0 => gX9_init vs S D
  | _ => none
def gX2_init (vs : List Value) (S : ev_S) (D : ev_D) : Option ev_Rs := bif vs.all ev_plain && decide (vs.length ≤ 2) then ev_run tbX2_init cfX2_init 4000 0 (vs.map some ++ List.replicate (2 - vs.length) none) [] (ev_z S) D else none
def tnX2_init : List (Nat × ev_Jn) := [(1, (12, (.invokespecial 3, 3, 0, 0, 0), 0, 0, 0)), (17, (8, (.anewarray 18, 3, 0, 0, 0), 0, 0, 0)), (20, (9, (.putfield 20, 3, 0, 0, 0), 2, 2, 0)), (26, (7, (.newarray .int, 2, 0, 0, 0), 0, 0, 0)), (28, (9, (.putfield 24, 3, 0, 0, 0), 2, 3, 0)), (36, (3, (.if_icmp .ge 22, 3, 0, 0, 0), 58, 3, 0)), (44, (6, (.new 18, 3, 0, 0, 0), 9, 14, 0)), (48, (11, (.invokespecial 28, 3, 0, 0, 0), 0, 0, 0)), (51, (13, (.aastore, 1, 0, 0, 0), 0, 0, 0)), (55, (1, (.goto (-22), 3, 0, 0, 0), 33, 0, 0)), (58, (4, (.return_, 1, 0, 0, 0), 0, 0, 0))]
set_option maxRecDepth 100000 in
theorem jX2_init_1 : ev_jok cfX2_init RX2 cX2_init 2 2 true 1 (12, (.invokespecial 3, 3, 0, 0, 0), 0, 0, 0) := ⟨3, (mt_2 (List.mem_of_getElem? (i := 50) rfl)), ac_oi, ac_oc, by decide, by decide +kernel⟩
set_option maxRecDepth 100000 in
theorem jX2_init_17 : ev_jok cfX2_init RX2 cX2_init 2 2 true 17 (8, (.anewarray 18, 3, 0, 0, 0), 0, 0, 0) := ⟨18, (mt_2 (List.mem_of_getElem? (i := 51) rfl)), ac_tow, by decide +kernel⟩
set_option maxRecDepth 100000 in
theorem jX2_init_20 : ev_jok cfX2_init RX2 cX2_init 2 2 true 20 (9, (.putfield 20, 3, 0, 0, 0), 2, 2, 0) := ⟨20, (RX2, TX2, 4), rfl, by decide, (mt_2 (List.mem_of_getElem? (i := 57) rfl)), Or.inr ⟨rfl, rfl, rfl⟩, by decide +kernel⟩
set_option maxRecDepth 100000 in
theorem jX2_init_26 : ev_jok cfX2_init RX2 cX2_init 2 2 true 26 (7, (.newarray .int, 2, 0, 0, 0), 0, 0, 0) := ⟨ac_int, by decide +kernel⟩
set_option maxRecDepth 100000 in
theorem jX2_init_28 : ev_jok cfX2_init RX2 cX2_init 2 2 true 28 (9, (.putfield 24, 3, 0, 0, 0), 2, 3, 0) := ⟨24, (RX2, TX2, 4), rfl, by decide, (mt_2 (List.mem_of_getElem? (i := 58) rfl)), Or.inr ⟨rfl, rfl, rfl⟩, by decide +kernel⟩
set_option maxRecDepth 100000 in
theorem jX2_init_36 : ev_jok cfX2_init RX2 cX2_init 2 2 true 36 (3, (.if_icmp .ge 22, 3, 0, 0, 0), 58, 3, 0) := ⟨22, by decide +kernel, by decide⟩
set_option maxRecDepth 100000 in
theorem jX2_init_44 : ev_jok cfX2_init RX2 cX2_init 2 2 true 44 (6, (.new 18, 3, 0, 0, 0), 9, 14, 0) := ⟨18, (RX9, TX9, 14), rfl, rfl, (mt_2 (List.mem_of_getElem? (i := 51) rfl)), (mt_1 (List.mem_of_getElem? (i := 38) rfl)), (mt_1 (List.mem_of_getElem? (i := 3) rfl)), by decide +kernel⟩
set_option maxRecDepth 100000 in
theorem jX2_init_48 : ev_jok cfX2_init RX2 cX2_init 2 2 true 48 (11, (.invokespecial 28, 3, 0, 0, 0), 0, 0, 0) := ⟨28, yX9_init, cX9_init, 1, 1, YcX9_init, (Or.inl (mt_2 (List.mem_of_getElem? (i := 53) rfl))), by decide, by decide +kernel, fun vs S D v S2 D2 h => mgX9_init h⟩
set_option maxRecDepth 100000 in
theorem jX2_init_51 : ev_jok cfX2_init RX2 cX2_init 2 2 true 51 (13, (.aastore, 1, 0, 0, 0), 0, 0, 0) := by decide +kernel
set_option maxRecDepth 100000 in
theorem jX2_init_55 : ev_jok cfX2_init RX2 cX2_init 2 2 true 55 (1, (.goto (-22), 3, 0, 0, 0), 33, 0, 0) := ⟨(-22), by decide +kernel, by decide⟩
set_option maxRecDepth 100000 in
theorem jX2_init_58 : ev_jok cfX2_init RX2 cX2_init 2 2 true 58 (4, (.return_, 1, 0, 0, 0), 0, 0, 0) := by decide +kernel
set_option maxRecDepth 100000 in
theorem jnX2_init : ∀ e ∈ tnX2_init, ev_jok cfX2_init RX2 cX2_init 2 2 true e.1 e.2 := List.forall_mem_cons.mpr ⟨jX2_init_1, List.forall_mem_cons.mpr ⟨jX2_init_17, List.forall_mem_cons.mpr ⟨jX2_init_20, List.forall_mem_cons.mpr ⟨jX2_init_26, List.forall_mem_cons.mpr ⟨jX2_init_28, List.forall_mem_cons.mpr ⟨jX2_init_36, List.forall_mem_cons.mpr ⟨jX2_init_44, List.forall_mem_cons.mpr ⟨jX2_init_48, List.forall_mem_cons.mpr ⟨jX2_init_51, List.forall_mem_cons.mpr ⟨jX2_init_55, List.forall_mem_cons.mpr ⟨jX2_init_58, fun _ h => absurd h List.not_mem_nil⟩⟩⟩⟩⟩⟩⟩⟩⟩⟩⟩
set_option maxRecDepth 100000 in
theorem jtX2_init : ∀ e ∈ tbX2_init, ev_jok cfX2_init RX2 cX2_init 2 2 true e.1 e.2 := ev_tball (lk := lk_RX2) lkok_RX2 (by decide +kernel) (by decide +kernel) jnX2_init
set_option maxRecDepth 100000 in
theorem mgX2_init {vs : List Value} {S : ev_S} {D : ev_D} {v : Int32} {S2 : ev_S} {D2 : ev_D} (h : gX2_init vs S D = some (v, S2, D2)) : ev_M 2 (sC S2) (sA S2) yX2_init cX2_init 2 none vs S D S2 (v, D2) := by
  unfold gX2_init at h
  obtain ⟨h1, h2, h3⟩ := ev_bif h
  exact ev_met (ini := true) (plainFor_of_name (by decide)) (fun _ => rfl) h1 h2 (fun F hR => ev_run_ok hR (Or.inl rfl) jtX2_init (ev_no5 (by decide +kernel)) 4000 0 _ [] (ev_z S) D h3)
def tbX4_init : List (Nat × ev_Jn) := [(0, (0, (.aload_n 0, 1, 0, 0, 0), 0, 0, 0)), (1, (12, (.invokespecial 5, 3, 0, 0, 0), 0, 0, 0)), (4, (0, (.aload_n 0, 1, 0, 0, 0), 0, 0, 0)), (5, (6, (.new 11, 3, 0, 0, 0), 7, 4, 0)), (8, (0, (.dup, 1, 0, 0, 0), 0, 0, 0)), (9, (11, (.invokespecial 13, 3, 0, 0, 0), 0, 0, 0)), (12, (9, (.putfield 14, 3, 0, 0, 0), 4, 0, 0)), (15, (0, (.aload_n 0, 1, 0, 0, 0), 0, 0, 0)), (16, (0, (.iconst 0, 1, 0, 0, 0), 0, 0, 0)), (17, (0, (.putfield 18, 3, 4, 1, 0), 0, 0, 0)), (20, (0, (.aload_n 0, 1, 0, 0, 0), 0, 0, 0)), (21, (0, (.iconst 0, 1, 0, 0, 0), 0, 0, 0)), (22, (0, (.putfield 22, 3, 4, 2, 0), 0, 0, 0)), (25, (0, (.aload_n 0, 1, 0, 0, 0), 0, 0, 0)), (26, (0, (.iconst (-1), 1, 0, 0, (-1)), 0, 0, 0)), (27, (0, (.putfield 25, 3, 4, 3, 0), 0, 0, 0)), (30, (0, (.aload_n 0, 1, 0, 0, 0), 0, 0, 0)), (31, (0, (.sipush 400, 3, 0, 0, 400), 0, 0, 0)), (34, (7, (.newarray .int, 2, 0, 0, 0), 0, 0, 0)), (36, (9, (.putfield 28, 3, 0, 0, 0), 4, 4, 0)), (39, (0, (.aload_n 0, 1, 0, 0, 0), 0, 0, 0)), (40, (0, (.sipush 401, 3, 0, 0, 401), 0, 0, 0)), (43, (7, (.newarray .int, 2, 0, 0, 0), 0, 0, 0)), (45, (9, (.putfield 32, 3, 0, 0, 0), 4, 5, 0)), (48, (0, (.aload_n 0, 1, 0, 0, 0), 0, 0, 0)), (49, (0, (.sipush 401, 3, 0, 0, 401), 0, 0, 0)), (52, (7, (.newarray .int, 2, 0, 0, 0), 0, 0, 0)), (54, (9, (.putfield 35, 3, 0, 0, 0), 4, 6, 0)), (57, (0, (.aload_n 0, 1, 0, 0, 0), 0, 0, 0)), (58, (0, (.sipush 401, 3, 0, 0, 401), 0, 0, 0)), (61, (7, (.newarray .int, 2, 0, 0, 0), 0, 0, 0)), (63, (9, (.putfield 38, 3, 0, 0, 0), 4, 7, 0)), (66, (0, (.aload_n 0, 1, 0, 0, 0), 0, 0, 0)), (67, (0, (.iconst 0, 1, 0, 0, 0), 0, 0, 0)), (68, (0, (.putfield 41, 3, 4, 8, 0), 0, 0, 0)), (71, (0, (.aload_n 0, 1, 0, 0, 0), 0, 0, 0)), (72, (0, (.iconst 0, 1, 0, 0, 0), 0, 0, 0)), (73, (0, (.putfield 44, 3, 4, 9, 0), 0, 0, 0)), (76, (0, (.aload_n 0, 1, 0, 0, 0), 0, 0, 0)), (77, (0, (.iconst 0, 1, 0, 0, 0), 0, 0, 0)), (78, (0, (.putfield 47, 3, 4, 10, 0), 0, 0, 0)), (81, (0, (.aload_n 0, 1, 0, 0, 0), 0, 0, 0)), (82, (0, (.iconst 0, 1, 0, 0, 0), 0, 0, 0)), (83, (0, (.putfield 50, 3, 4, 11, 0), 0, 0, 0)), (86, (4, (.return_, 1, 0, 0, 0), 0, 0, 0))]
def cfX4_init : ev_Cf := fun k vs S D => match k with
  | 0 => gX7_init vs S D
  | _ => none
def gX4_init (vs : List Value) (S : ev_S) (D : ev_D) : Option ev_Rs := bif vs.all ev_plain && decide (vs.length ≤ 1) then ev_run tbX4_init cfX4_init 4000 0 (vs.map some ++ List.replicate (1 - vs.length) none) [] (ev_z S) D else none
def tnX4_init : List (Nat × ev_Jn) := [(1, (12, (.invokespecial 5, 3, 0, 0, 0), 0, 0, 0)), (5, (6, (.new 11, 3, 0, 0, 0), 7, 4, 0)), (9, (11, (.invokespecial 13, 3, 0, 0, 0), 0, 0, 0)), (12, (9, (.putfield 14, 3, 0, 0, 0), 4, 0, 0)), (34, (7, (.newarray .int, 2, 0, 0, 0), 0, 0, 0)), (36, (9, (.putfield 28, 3, 0, 0, 0), 4, 4, 0)), (43, (7, (.newarray .int, 2, 0, 0, 0), 0, 0, 0)), (45, (9, (.putfield 32, 3, 0, 0, 0), 4, 5, 0)), (52, (7, (.newarray .int, 2, 0, 0, 0), 0, 0, 0)), (54, (9, (.putfield 35, 3, 0, 0, 0), 4, 6, 0)), (61, (7, (.newarray .int, 2, 0, 0, 0), 0, 0, 0)), (63, (9, (.putfield 38, 3, 0, 0, 0), 4, 7, 0)), (86, (4, (.return_, 1, 0, 0, 0), 0, 0, 0))]
set_option maxRecDepth 100000 in
theorem jX4_init_1 : ev_jok cfX4_init RX4 cX4_init 1 3 true 1 (12, (.invokespecial 5, 3, 0, 0, 0), 0, 0, 0) := ⟨5, (mt_2 (List.mem_of_getElem? (i := 73) rfl)), ac_oi, ac_oc, by decide, by decide +kernel⟩
set_option maxRecDepth 100000 in
theorem jX4_init_5 : ev_jok cfX4_init RX4 cX4_init 1 3 true 5 (6, (.new 11, 3, 0, 0, 0), 7, 4, 0) := ⟨11, (RX7, TX7, 4), rfl, rfl, (mt_2 (List.mem_of_getElem? (i := 74) rfl)), (mt_1 (List.mem_of_getElem? (i := 143) rfl)), (mt_1 (List.mem_of_getElem? (i := 7) rfl)), by decide +kernel⟩
set_option maxRecDepth 100000 in
theorem jX4_init_9 : ev_jok cfX4_init RX4 cX4_init 1 3 true 9 (11, (.invokespecial 13, 3, 0, 0, 0), 0, 0, 0) := ⟨13, yX7_init, cX7_init, 1, 2, YcX7_init, (Or.inr ⟨"DeafBells", (mt_2 (List.mem_of_getElem? (i := 75) rfl))⟩), by decide, by decide +kernel, fun vs S D v S2 D2 h => mgX7_init h⟩
set_option maxRecDepth 100000 in
theorem jX4_init_12 : ev_jok cfX4_init RX4 cX4_init 1 3 true 12 (9, (.putfield 14, 3, 0, 0, 0), 4, 0, 0) := ⟨14, (RX4, TX4, 12), rfl, by decide, (mt_2 (List.mem_of_getElem? (i := 76) rfl)), Or.inr ⟨rfl, rfl, rfl⟩, by decide +kernel⟩
set_option maxRecDepth 100000 in
theorem jX4_init_34 : ev_jok cfX4_init RX4 cX4_init 1 3 true 34 (7, (.newarray .int, 2, 0, 0, 0), 0, 0, 0) := ⟨ac_int, by decide +kernel⟩
set_option maxRecDepth 100000 in
theorem jX4_init_36 : ev_jok cfX4_init RX4 cX4_init 1 3 true 36 (9, (.putfield 28, 3, 0, 0, 0), 4, 4, 0) := ⟨28, (RX4, TX4, 12), rfl, by decide, (mt_2 (List.mem_of_getElem? (i := 84) rfl)), Or.inr ⟨rfl, rfl, rfl⟩, by decide +kernel⟩
set_option maxRecDepth 100000 in
theorem jX4_init_43 : ev_jok cfX4_init RX4 cX4_init 1 3 true 43 (7, (.newarray .int, 2, 0, 0, 0), 0, 0, 0) := ⟨ac_int, by decide +kernel⟩
set_option maxRecDepth 100000 in
theorem jX4_init_45 : ev_jok cfX4_init RX4 cX4_init 1 3 true 45 (9, (.putfield 32, 3, 0, 0, 0), 4, 5, 0) := ⟨32, (RX4, TX4, 12), rfl, by decide, (mt_2 (List.mem_of_getElem? (i := 85) rfl)), Or.inr ⟨rfl, rfl, rfl⟩, by decide +kernel⟩
set_option maxRecDepth 100000 in
theorem jX4_init_52 : ev_jok cfX4_init RX4 cX4_init 1 3 true 52 (7, (.newarray .int, 2, 0, 0, 0), 0, 0, 0) := ⟨ac_int, by decide +kernel⟩
set_option maxRecDepth 100000 in
theorem jX4_init_54 : ev_jok cfX4_init RX4 cX4_init 1 3 true 54 (9, (.putfield 35, 3, 0, 0, 0), 4, 6, 0) := ⟨35, (RX4, TX4, 12), rfl, by decide, (mt_2 (List.mem_of_getElem? (i := 86) rfl)), Or.inr ⟨rfl, rfl, rfl⟩, by decide +kernel⟩
set_option maxRecDepth 100000 in
theorem jX4_init_61 : ev_jok cfX4_init RX4 cX4_init 1 3 true 61 (7, (.newarray .int, 2, 0, 0, 0), 0, 0, 0) := ⟨ac_int, by decide +kernel⟩
set_option maxRecDepth 100000 in
theorem jX4_init_63 : ev_jok cfX4_init RX4 cX4_init 1 3 true 63 (9, (.putfield 38, 3, 0, 0, 0), 4, 7, 0) := ⟨38, (RX4, TX4, 12), rfl, by decide, (mt_2 (List.mem_of_getElem? (i := 87) rfl)), Or.inr ⟨rfl, rfl, rfl⟩, by decide +kernel⟩
set_option maxRecDepth 100000 in
theorem jX4_init_86 : ev_jok cfX4_init RX4 cX4_init 1 3 true 86 (4, (.return_, 1, 0, 0, 0), 0, 0, 0) := by decide +kernel
set_option maxRecDepth 100000 in
theorem jnX4_init : ∀ e ∈ tnX4_init, ev_jok cfX4_init RX4 cX4_init 1 3 true e.1 e.2 := List.forall_mem_cons.mpr ⟨jX4_init_1, List.forall_mem_cons.mpr ⟨jX4_init_5, List.forall_mem_cons.mpr ⟨jX4_init_9, List.forall_mem_cons.mpr ⟨jX4_init_12, List.forall_mem_cons.mpr ⟨jX4_init_34, List.forall_mem_cons.mpr ⟨jX4_init_36, List.forall_mem_cons.mpr ⟨jX4_init_43, List.forall_mem_cons.mpr ⟨jX4_init_45, List.forall_mem_cons.mpr ⟨jX4_init_52, List.forall_mem_cons.mpr ⟨jX4_init_54, List.forall_mem_cons.mpr ⟨jX4_init_61, List.forall_mem_cons.mpr ⟨jX4_init_63, List.forall_mem_cons.mpr ⟨jX4_init_86, fun _ h => absurd h List.not_mem_nil⟩⟩⟩⟩⟩⟩⟩⟩⟩⟩⟩⟩⟩
set_option maxRecDepth 100000 in
theorem jtX4_init : ∀ e ∈ tbX4_init, ev_jok cfX4_init RX4 cX4_init 1 3 true e.1 e.2 := ev_tball (lk := lk_RX4) lkok_RX4 (by decide +kernel) (by decide +kernel) jnX4_init
set_option maxRecDepth 100000 in
theorem mgX4_init {vs : List Value} {S : ev_S} {D : ev_D} {v : Int32} {S2 : ev_S} {D2 : ev_D} (h : gX4_init vs S D = some (v, S2, D2)) : ev_M 3 (sC S2) (sA S2) yX4_init cX4_init 1 none vs S D S2 (v, D2) := by
  unfold gX4_init at h
  obtain ⟨h1, h2, h3⟩ := ev_bif h
  exact ev_met (ini := true) (plainFor_of_name (by decide)) (fun _ => rfl) h1 h2 (fun F hR => ev_run_ok hR (Or.inl rfl) jtX4_init (ev_no5 (by decide +kernel)) 4000 0 _ [] (ev_z S) D h3)
def tbX5_init : List (Nat × ev_Jn) := [(0, (0, (.aload_n 0, 1, 0, 0, 0), 0, 0, 0)), (1, (12, (.invokespecial 3, 3, 0, 0, 0), 0, 0, 0)), (4, (0, (.aload_n 0, 1, 0, 0, 0), 0, 0, 0)), (5, (0, (.bipush 11, 2, 0, 0, 11), 0, 0, 0)), (7, (7, (.newarray .int, 2, 0, 0, 0), 0, 0, 0)), (9, (9, (.putfield 11, 3, 0, 0, 0), 5, 3, 0)), (12, (0, (.aload_n 0, 1, 0, 0, 0), 0, 0, 0)), (13, (0, (.aload_n 1, 1, 0, 0, 0), 0, 0, 0)), (14, (9, (.putfield 17, 3, 0, 0, 0), 5, 0, 0)), (17, (0, (.aload_n 0, 1, 0, 0, 0), 0, 0, 0)), (18, (0, (.aload_n 2, 1, 0, 0, 0), 0, 0, 0)), (19, (9, (.putfield 21, 3, 0, 0, 0), 5, 1, 0)), (22, (0, (.aload_n 0, 1, 0, 0, 0), 0, 0, 0)), (23, (0, (.aload_n 3, 1, 0, 0, 0), 0, 0, 0)), (24, (9, (.putfield 25, 3, 0, 0, 0), 5, 2, 0)), (27, (4, (.return_, 1, 0, 0, 0), 0, 0, 0))]
def cfX5_init : ev_Cf := fun k vs S D => match k with
  | _ => none
def gX5_init (vs : List Value) (S : ev_S) (D : ev_D) : Option ev_Rs := bif vs.all ev_plain && decide (vs.length ≤ 4) then ev_run tbX5_init cfX5_init 4000 0 (vs.map some ++ List.replicate (4 - vs.length) none) [] (ev_z S) D else none
def tnX5_init : List (Nat × ev_Jn) := [(1, (12, (.invokespecial 3, 3, 0, 0, 0), 0, 0, 0)), (7, (7, (.newarray .int, 2, 0, 0, 0), 0, 0, 0)), (9, (9, (.putfield 11, 3, 0, 0, 0), 5, 3, 0)), (14, (9, (.putfield 17, 3, 0, 0, 0), 5, 0, 0)), (19, (9, (.putfield 21, 3, 0, 0, 0), 5, 1, 0)), (24, (9, (.putfield 25, 3, 0, 0, 0), 5, 2, 0)), (27, (4, (.return_, 1, 0, 0, 0), 0, 0, 0))]
set_option maxRecDepth 100000 in
theorem jX5_init_1 : ev_jok cfX5_init RX5 cX5_init 4 1 true 1 (12, (.invokespecial 3, 3, 0, 0, 0), 0, 0, 0) := ⟨3, (mt_2 (List.mem_of_getElem? (i := 122) rfl)), ac_oi, ac_oc, by decide, by decide +kernel⟩
set_option maxRecDepth 100000 in
theorem jX5_init_7 : ev_jok cfX5_init RX5 cX5_init 4 1 true 7 (7, (.newarray .int, 2, 0, 0, 0), 0, 0, 0) := ⟨ac_int, by decide +kernel⟩
set_option maxRecDepth 100000 in
theorem jX5_init_9 : ev_jok cfX5_init RX5 cX5_init 4 1 true 9 (9, (.putfield 11, 3, 0, 0, 0), 5, 3, 0) := ⟨11, (RX5, TX5, 4), rfl, by decide, (mt_2 (List.mem_of_getElem? (i := 127) rfl)), Or.inr ⟨rfl, rfl, rfl⟩, by decide +kernel⟩
set_option maxRecDepth 100000 in
theorem jX5_init_14 : ev_jok cfX5_init RX5 cX5_init 4 1 true 14 (9, (.putfield 17, 3, 0, 0, 0), 5, 0, 0) := ⟨17, (RX5, TX5, 4), rfl, by decide, (mt_2 (List.mem_of_getElem? (i := 123) rfl)), Or.inr ⟨rfl, rfl, rfl⟩, by decide +kernel⟩
set_option maxRecDepth 100000 in
theorem jX5_init_19 : ev_jok cfX5_init RX5 cX5_init 4 1 true 19 (9, (.putfield 21, 3, 0, 0, 0), 5, 1, 0) := ⟨21, (RX5, TX5, 4), rfl, by decide, (mt_2 (List.mem_of_getElem? (i := 125) rfl)), Or.inr ⟨rfl, rfl, rfl⟩, by decide +kernel⟩
set_option maxRecDepth 100000 in
theorem jX5_init_24 : ev_jok cfX5_init RX5 cX5_init 4 1 true 24 (9, (.putfield 25, 3, 0, 0, 0), 5, 2, 0) := ⟨25, (RX5, TX5, 4), rfl, by decide, (mt_2 (List.mem_of_getElem? (i := 126) rfl)), Or.inr ⟨rfl, rfl, rfl⟩, by decide +kernel⟩
set_option maxRecDepth 100000 in
theorem jX5_init_27 : ev_jok cfX5_init RX5 cX5_init 4 1 true 27 (4, (.return_, 1, 0, 0, 0), 0, 0, 0) := by decide +kernel
set_option maxRecDepth 100000 in
theorem jnX5_init : ∀ e ∈ tnX5_init, ev_jok cfX5_init RX5 cX5_init 4 1 true e.1 e.2 := List.forall_mem_cons.mpr ⟨jX5_init_1, List.forall_mem_cons.mpr ⟨jX5_init_7, List.forall_mem_cons.mpr ⟨jX5_init_9, List.forall_mem_cons.mpr ⟨jX5_init_14, List.forall_mem_cons.mpr ⟨jX5_init_19, List.forall_mem_cons.mpr ⟨jX5_init_24, List.forall_mem_cons.mpr ⟨jX5_init_27, fun _ h => absurd h List.not_mem_nil⟩⟩⟩⟩⟩⟩⟩
set_option maxRecDepth 100000 in
theorem jtX5_init : ∀ e ∈ tbX5_init, ev_jok cfX5_init RX5 cX5_init 4 1 true e.1 e.2 := ev_tball (lk := lk_RX5) lkok_RX5 (by decide +kernel) (by decide +kernel) jnX5_init
set_option maxRecDepth 100000 in
theorem mgX5_init {vs : List Value} {S : ev_S} {D : ev_D} {v : Int32} {S2 : ev_S} {D2 : ev_D} (h : gX5_init vs S D = some (v, S2, D2)) : ev_M 1 (sC S2) (sA S2) yX5_init cX5_init 4 none vs S D S2 (v, D2) := by
  unfold gX5_init at h
  obtain ⟨h1, h2, h3⟩ := ev_bif h
  exact ev_met (ini := true) (plainFor_of_name (by decide)) (fun _ => rfl) h1 h2 (fun F hR => ev_run_ok hR (Or.inl rfl) jtX5_init (ev_no5 (by decide +kernel)) 4000 0 _ [] (ev_z S) D h3)
def tbX3_init : List (Nat × ev_Jn) := [(0, (0, (.aload_n 0, 1, 0, 0, 0), 0, 0, 0)), (1, (12, (.invokespecial 3, 3, 0, 0, 0), 0, 0, 0)), (4, (0, (.aload_n 0, 1, 0, 0, 0), 0, 0, 0)), (5, (0, (.bipush 8, 2, 0, 0, 8), 0, 0, 0)), (7, (7, (.newarray .int, 2, 0, 0, 0), 0, 0, 0)), (9, (9, (.putfield 9, 3, 0, 0, 0), 3, 3, 0)), (12, (0, (.aload_n 0, 1, 0, 0, 0), 0, 0, 0)), (13, (0, (.sipush 256, 3, 0, 0, 256), 0, 0, 0)), (16, (7, (.newarray .int, 2, 0, 0, 0), 0, 0, 0)), (18, (9, (.putfield 15, 3, 0, 0, 0), 3, 4, 0)), (21, (0, (.aload_n 0, 1, 0, 0, 0), 0, 0, 0)), (22, (0, (.sipush 256, 3, 0, 0, 256), 0, 0, 0)), (25, (7, (.newarray .int, 2, 0, 0, 0), 0, 0, 0)), (27, (9, (.putfield 18, 3, 0, 0, 0), 3, 5, 0)), (30, (0, (.aload_n 0, 1, 0, 0, 0), 0, 0, 0)), (31, (0, (.bipush 12, 2, 0, 0, 12), 0, 0, 0)), (33, (7, (.newarray .int, 2, 0, 0, 0), 0, 0, 0)), (35, (9, (.putfield 21, 3, 0, 0, 0), 3, 6, 0)), (38, (0, (.aload_n 0, 1, 0, 0, 0), 0, 0, 0)), (39, (0, (.sipush 181, 3, 0, 0, 181), 0, 0, 0)), (42, (7, (.newarray .int, 2, 0, 0, 0), 0, 0, 0)), (44, (9, (.putfield 24, 3, 0, 0, 0), 3, 7, 0)), (47, (0, (.aload_n 0, 1, 0, 0, 0), 0, 0, 0)), (48, (0, (.sipush 181, 3, 0, 0, 181), 0, 0, 0)), (51, (7, (.newarray .int, 2, 0, 0, 0), 0, 0, 0)), (53, (9, (.putfield 27, 3, 0, 0, 0), 3, 8, 0)), (56, (0, (.aload_n 0, 1, 0, 0, 0), 0, 0, 0)), (57, (0, (.bipush 100, 2, 0, 0, 100), 0, 0, 0)), (59, (7, (.newarray .int, 2, 0, 0, 0), 0, 0, 0)), (61, (9, (.putfield 30, 3, 0, 0, 0), 3, 9, 0)), (64, (0, (.aload_n 0, 1, 0, 0, 0), 0, 0, 0)), (65, (0, (.aload_n 1, 1, 0, 0, 0), 0, 0, 0)), (66, (9, (.putfield 33, 3, 0, 0, 0), 3, 0, 0)), (69, (0, (.aload_n 0, 1, 0, 0, 0), 0, 0, 0)), (70, (0, (.aload_n 2, 1, 0, 0, 0), 0, 0, 0)), (71, (9, (.putfield 37, 3, 0, 0, 0), 3, 1, 0)), (74, (0, (.aload_n 0, 1, 0, 0, 0), 0, 0, 0)), (75, (0, (.aload_n 3, 1, 0, 0, 0), 0, 0, 0)), (76, (9, (.putfield 41, 3, 0, 0, 0), 3, 2, 0)), (79, (0, (.iconst 1, 1, 0, 0, 1), 0, 0, 0)), (80, (0, (.istore 4, 2, 0, 0, 0), 0, 0, 0)), (82, (0, (.iload 4, 2, 0, 0, 0), 0, 0, 0)), (84, (0, (.bipush 99, 2, 0, 0, 99), 0, 0, 0)), (86, (3, (.if_icmp .gt 37, 3, 0, 0, 0), 123, 4, 0)), (89, (0, (.aload_n 0, 1, 0, 0, 0), 0, 0, 0)), (90, (0, (.getfield 30, 3, 3, 9, 0), 0, 0, 0)), (93, (0, (.iload 4, 2, 0, 0, 0), 0, 0, 0)), (95, (0, (.aload_n 0, 1, 0, 0, 0), 0, 0, 0)), (96, (0, (.getfield 30, 3, 3, 9, 0), 0, 0, 0)), (99, (0, (.iload 4, 2, 0, 0, 0), 0, 0, 0)), (101, (0, (.iconst 1, 1, 0, 0, 1), 0, 0, 0)), (102, (0, (.isub, 1, 0, 0, 0), 0, 0, 0)), (103, (0, (.iaload, 1, 0, 0, 0), 0, 0, 0)), (104, (0, (.aload_n 0, 1, 0, 0, 0), 0, 0, 0)), (105, (0, (.getfield 30, 3, 3, 9, 0), 0, 0, 0)), (108, (0, (.iload 4, 2, 0, 0, 0), 0, 0, 0)), (110, (0, (.iconst 2, 1, 0, 0, 2), 0, 0, 0)), (111, (0, (.idiv, 1, 0, 0, 0), 0, 0, 0)), (112, (0, (.iaload, 1, 0, 0, 0), 0, 0, 0)), (113, (10, (.invokestatic 45, 3, 0, 0, 0), 0, 2, 1)), (116, (0, (.iastore, 1, 0, 0, 0), 0, 0, 0)), (117, (0, (.iinc 4 1, 3, 0, 0, 1), 0, 0, 0)), (120, (1, (.goto (-38), 3, 0, 0, 0), 82, 0, 0)), (123, (4, (.return_, 1, 0, 0, 0), 0, 0, 0))]
def cfX3_init : ev_Cf := fun k vs S D => match k with
  | 0 => wX3_leastBeside vs S D
  | _ => none
def gX3_init (vs : List Value) (S : ev_S) (D : ev_D) : Option ev_Rs := bif vs.all ev_plain && decide (vs.length ≤ 5) then ev_run tbX3_init cfX3_init 4000 0 (vs.map some ++ List.replicate (5 - vs.length) none) [] (ev_z S) D else none
def tnX3_init : List (Nat × ev_Jn) := [(1, (12, (.invokespecial 3, 3, 0, 0, 0), 0, 0, 0)), (7, (7, (.newarray .int, 2, 0, 0, 0), 0, 0, 0)), (9, (9, (.putfield 9, 3, 0, 0, 0), 3, 3, 0)), (16, (7, (.newarray .int, 2, 0, 0, 0), 0, 0, 0)), (18, (9, (.putfield 15, 3, 0, 0, 0), 3, 4, 0)), (25, (7, (.newarray .int, 2, 0, 0, 0), 0, 0, 0)), (27, (9, (.putfield 18, 3, 0, 0, 0), 3, 5, 0)), (33, (7, (.newarray .int, 2, 0, 0, 0), 0, 0, 0)), (35, (9, (.putfield 21, 3, 0, 0, 0), 3, 6, 0)), (42, (7, (.newarray .int, 2, 0, 0, 0), 0, 0, 0)), (44, (9, (.putfield 24, 3, 0, 0, 0), 3, 7, 0)), (51, (7, (.newarray .int, 2, 0, 0, 0), 0, 0, 0)), (53, (9, (.putfield 27, 3, 0, 0, 0), 3, 8, 0)), (59, (7, (.newarray .int, 2, 0, 0, 0), 0, 0, 0)), (61, (9, (.putfield 30, 3, 0, 0, 0), 3, 9, 0)), (66, (9, (.putfield 33, 3, 0, 0, 0), 3, 0, 0)), (71, (9, (.putfield 37, 3, 0, 0, 0), 3, 1, 0)), (76, (9, (.putfield 41, 3, 0, 0, 0), 3, 2, 0)), (86, (3, (.if_icmp .gt 37, 3, 0, 0, 0), 123, 4, 0)), (113, (10, (.invokestatic 45, 3, 0, 0, 0), 0, 2, 1)), (120, (1, (.goto (-38), 3, 0, 0, 0), 82, 0, 0)), (123, (4, (.return_, 1, 0, 0, 0), 0, 0, 0))]
set_option maxRecDepth 100000 in
theorem jX3_init_1 : ev_jok cfX3_init RX3 cX3_init 5 1 true 1 (12, (.invokespecial 3, 3, 0, 0, 0), 0, 0, 0) := ⟨3, (mt_2 (List.mem_of_getElem? (i := 146) rfl)), ac_oi, ac_oc, by decide, by decide +kernel⟩
set_option maxRecDepth 100000 in
theorem jX3_init_7 : ev_jok cfX3_init RX3 cX3_init 5 1 true 7 (7, (.newarray .int, 2, 0, 0, 0), 0, 0, 0) := ⟨ac_int, by decide +kernel⟩
set_option maxRecDepth 100000 in
theorem jX3_init_9 : ev_jok cfX3_init RX3 cX3_init 5 1 true 9 (9, (.putfield 9, 3, 0, 0, 0), 3, 3, 0) := ⟨9, (RX3, TX3, 10), rfl, by decide, (mt_2 (List.mem_of_getElem? (i := 153) rfl)), Or.inr ⟨rfl, rfl, rfl⟩, by decide +kernel⟩
set_option maxRecDepth 100000 in
theorem jX3_init_16 : ev_jok cfX3_init RX3 cX3_init 5 1 true 16 (7, (.newarray .int, 2, 0, 0, 0), 0, 0, 0) := ⟨ac_int, by decide +kernel⟩
set_option maxRecDepth 100000 in
theorem jX3_init_18 : ev_jok cfX3_init RX3 cX3_init 5 1 true 18 (9, (.putfield 15, 3, 0, 0, 0), 3, 4, 0) := ⟨15, (RX3, TX3, 10), rfl, by decide, (mt_2 (List.mem_of_getElem? (i := 154) rfl)), Or.inr ⟨rfl, rfl, rfl⟩, by decide +kernel⟩
set_option maxRecDepth 100000 in
theorem jX3_init_25 : ev_jok cfX3_init RX3 cX3_init 5 1 true 25 (7, (.newarray .int, 2, 0, 0, 0), 0, 0, 0) := ⟨ac_int, by decide +kernel⟩
set_option maxRecDepth 100000 in
theorem jX3_init_27 : ev_jok cfX3_init RX3 cX3_init 5 1 true 27 (9, (.putfield 18, 3, 0, 0, 0), 3, 5, 0) := ⟨18, (RX3, TX3, 10), rfl, by decide, (mt_2 (List.mem_of_getElem? (i := 155) rfl)), Or.inr ⟨rfl, rfl, rfl⟩, by decide +kernel⟩
set_option maxRecDepth 100000 in
theorem jX3_init_33 : ev_jok cfX3_init RX3 cX3_init 5 1 true 33 (7, (.newarray .int, 2, 0, 0, 0), 0, 0, 0) := ⟨ac_int, by decide +kernel⟩
set_option maxRecDepth 100000 in
theorem jX3_init_35 : ev_jok cfX3_init RX3 cX3_init 5 1 true 35 (9, (.putfield 21, 3, 0, 0, 0), 3, 6, 0) := ⟨21, (RX3, TX3, 10), rfl, by decide, (mt_2 (List.mem_of_getElem? (i := 156) rfl)), Or.inr ⟨rfl, rfl, rfl⟩, by decide +kernel⟩
set_option maxRecDepth 100000 in
theorem jX3_init_42 : ev_jok cfX3_init RX3 cX3_init 5 1 true 42 (7, (.newarray .int, 2, 0, 0, 0), 0, 0, 0) := ⟨ac_int, by decide +kernel⟩
set_option maxRecDepth 100000 in
theorem jX3_init_44 : ev_jok cfX3_init RX3 cX3_init 5 1 true 44 (9, (.putfield 24, 3, 0, 0, 0), 3, 7, 0) := ⟨24, (RX3, TX3, 10), rfl, by decide, (mt_2 (List.mem_of_getElem? (i := 157) rfl)), Or.inr ⟨rfl, rfl, rfl⟩, by decide +kernel⟩
set_option maxRecDepth 100000 in
theorem jX3_init_51 : ev_jok cfX3_init RX3 cX3_init 5 1 true 51 (7, (.newarray .int, 2, 0, 0, 0), 0, 0, 0) := ⟨ac_int, by decide +kernel⟩
set_option maxRecDepth 100000 in
theorem jX3_init_53 : ev_jok cfX3_init RX3 cX3_init 5 1 true 53 (9, (.putfield 27, 3, 0, 0, 0), 3, 8, 0) := ⟨27, (RX3, TX3, 10), rfl, by decide, (mt_2 (List.mem_of_getElem? (i := 158) rfl)), Or.inr ⟨rfl, rfl, rfl⟩, by decide +kernel⟩
set_option maxRecDepth 100000 in
theorem jX3_init_59 : ev_jok cfX3_init RX3 cX3_init 5 1 true 59 (7, (.newarray .int, 2, 0, 0, 0), 0, 0, 0) := ⟨ac_int, by decide +kernel⟩
set_option maxRecDepth 100000 in
theorem jX3_init_61 : ev_jok cfX3_init RX3 cX3_init 5 1 true 61 (9, (.putfield 30, 3, 0, 0, 0), 3, 9, 0) := ⟨30, (RX3, TX3, 10), rfl, by decide, (mt_2 (List.mem_of_getElem? (i := 159) rfl)), Or.inr ⟨rfl, rfl, rfl⟩, by decide +kernel⟩
set_option maxRecDepth 100000 in
theorem jX3_init_66 : ev_jok cfX3_init RX3 cX3_init 5 1 true 66 (9, (.putfield 33, 3, 0, 0, 0), 3, 0, 0) := ⟨33, (RX3, TX3, 10), rfl, by decide, (mt_2 (List.mem_of_getElem? (i := 150) rfl)), Or.inr ⟨rfl, rfl, rfl⟩, by decide +kernel⟩
set_option maxRecDepth 100000 in
theorem jX3_init_71 : ev_jok cfX3_init RX3 cX3_init 5 1 true 71 (9, (.putfield 37, 3, 0, 0, 0), 3, 1, 0) := ⟨37, (RX3, TX3, 10), rfl, by decide, (mt_2 (List.mem_of_getElem? (i := 151) rfl)), Or.inr ⟨rfl, rfl, rfl⟩, by decide +kernel⟩
set_option maxRecDepth 100000 in
theorem jX3_init_76 : ev_jok cfX3_init RX3 cX3_init 5 1 true 76 (9, (.putfield 41, 3, 0, 0, 0), 3, 2, 0) := ⟨41, (RX3, TX3, 10), rfl, by decide, (mt_2 (List.mem_of_getElem? (i := 152) rfl)), Or.inr ⟨rfl, rfl, rfl⟩, by decide +kernel⟩
set_option maxRecDepth 100000 in
theorem jX3_init_86 : ev_jok cfX3_init RX3 cX3_init 5 1 true 86 (3, (.if_icmp .gt 37, 3, 0, 0, 0), 123, 4, 0) := ⟨37, by decide +kernel, by decide⟩
set_option maxRecDepth 100000 in
theorem jX3_init_113 : ev_jok cfX3_init RX3 cX3_init 5 1 true 113 (10, (.invokestatic 45, 3, 0, 0, 0), 0, 2, 1) := ⟨45, yX3_leastBeside, cX3_leastBeside, 3, (some .int), 0, YX3_leastBeside, (Or.inl (mt_2 (List.mem_of_getElem? (i := 147) rfl))), by decide, fun _ _ => rfl, by decide +kernel, fun vs S D v S2 D2 h => mwX3_leastBeside h⟩
set_option maxRecDepth 100000 in
theorem jX3_init_120 : ev_jok cfX3_init RX3 cX3_init 5 1 true 120 (1, (.goto (-38), 3, 0, 0, 0), 82, 0, 0) := ⟨(-38), by decide +kernel, by decide⟩
set_option maxRecDepth 100000 in
theorem jX3_init_123 : ev_jok cfX3_init RX3 cX3_init 5 1 true 123 (4, (.return_, 1, 0, 0, 0), 0, 0, 0) := by decide +kernel
set_option maxRecDepth 100000 in
theorem jnX3_init : ∀ e ∈ tnX3_init, ev_jok cfX3_init RX3 cX3_init 5 1 true e.1 e.2 := List.forall_mem_cons.mpr ⟨jX3_init_1, List.forall_mem_cons.mpr ⟨jX3_init_7, List.forall_mem_cons.mpr ⟨jX3_init_9, List.forall_mem_cons.mpr ⟨jX3_init_16, List.forall_mem_cons.mpr ⟨jX3_init_18, List.forall_mem_cons.mpr ⟨jX3_init_25, List.forall_mem_cons.mpr ⟨jX3_init_27, List.forall_mem_cons.mpr ⟨jX3_init_33, List.forall_mem_cons.mpr ⟨jX3_init_35, List.forall_mem_cons.mpr ⟨jX3_init_42, List.forall_mem_cons.mpr ⟨jX3_init_44, List.forall_mem_cons.mpr ⟨jX3_init_51, List.forall_mem_cons.mpr ⟨jX3_init_53, List.forall_mem_cons.mpr ⟨jX3_init_59, List.forall_mem_cons.mpr ⟨jX3_init_61, List.forall_mem_cons.mpr ⟨jX3_init_66, List.forall_mem_cons.mpr ⟨jX3_init_71, List.forall_mem_cons.mpr ⟨jX3_init_76, List.forall_mem_cons.mpr ⟨jX3_init_86, List.forall_mem_cons.mpr ⟨jX3_init_113, List.forall_mem_cons.mpr ⟨jX3_init_120, List.forall_mem_cons.mpr ⟨jX3_init_123, fun _ h => absurd h List.not_mem_nil⟩⟩⟩⟩⟩⟩⟩⟩⟩⟩⟩⟩⟩⟩⟩⟩⟩⟩⟩⟩⟩⟩
set_option maxRecDepth 100000 in
theorem jtX3_init : ∀ e ∈ tbX3_init, ev_jok cfX3_init RX3 cX3_init 5 1 true e.1 e.2 := ev_tball (lk := lk_RX3) lkok_RX3 (by decide +kernel) (by decide +kernel) jnX3_init
set_option maxRecDepth 100000 in
theorem mgX3_init {vs : List Value} {S : ev_S} {D : ev_D} {v : Int32} {S2 : ev_S} {D2 : ev_D} (h : gX3_init vs S D = some (v, S2, D2)) : ev_M 1 (sC S2) (sA S2) yX3_init cX3_init 5 none vs S D S2 (v, D2) := by
  unfold gX3_init at h
  obtain ⟨h1, h2, h3⟩ := ev_bif h
  exact ev_met (ini := true) (plainFor_of_name (by decide)) (fun _ => rfl) h1 h2 (fun F hR => ev_run_ok hR (Or.inl rfl) jtX3_init (ev_no5 (by decide +kernel)) 4000 0 _ [] (ev_z S) D h3)
def tbX11_init : List (Nat × ev_Jn) := [(0, (0, (.aload_n 0, 1, 0, 0, 0), 0, 0, 0)), (1, (12, (.invokespecial 1, 3, 0, 0, 0), 0, 0, 0)), (4, (0, (.aload_n 0, 1, 0, 0, 0), 0, 0, 0)), (5, (6, (.new 7, 3, 0, 0, 0), 10, 4, 0)), (8, (0, (.dup, 1, 0, 0, 0), 0, 0, 0)), (9, (11, (.invokespecial 9, 3, 0, 0, 0), 0, 0, 0)), (12, (9, (.putfield 10, 3, 0, 0, 0), 11, 0, 0)), (15, (0, (.aload_n 0, 1, 0, 0, 0), 0, 0, 0)), (16, (6, (.new 16, 3, 0, 0, 0), 2, 4, 0)), (19, (0, (.dup, 1, 0, 0, 0), 0, 0, 0)), (20, (11, (.invokespecial 18, 3, 0, 0, 0), 1, 0, 0)), (23, (9, (.putfield 19, 3, 0, 0, 0), 11, 1, 0)), (26, (0, (.aload_n 0, 1, 0, 0, 0), 0, 0, 0)), (27, (6, (.new 23, 3, 0, 0, 0), 4, 12, 0)), (30, (0, (.dup, 1, 0, 0, 0), 0, 0, 0)), (31, (11, (.invokespecial 25, 3, 0, 0, 0), 2, 0, 0)), (34, (9, (.putfield 26, 3, 0, 0, 0), 11, 2, 0)), (37, (0, (.aload_n 0, 1, 0, 0, 0), 0, 0, 0)), (38, (6, (.new 30, 3, 0, 0, 0), 5, 4, 0)), (41, (0, (.dup, 1, 0, 0, 0), 0, 0, 0)), (42, (0, (.aload_n 0, 1, 0, 0, 0), 0, 0, 0)), (43, (0, (.getfield 10, 3, 11, 0, 0), 0, 0, 0)), (46, (0, (.getfield 32, 3, 10, 0, 0), 0, 0, 0)), (49, (0, (.aload_n 0, 1, 0, 0, 0), 0, 0, 0)), (50, (0, (.getfield 10, 3, 11, 0, 0), 0, 0, 0)), (53, (0, (.getfield 36, 3, 10, 1, 0), 0, 0, 0)), (56, (0, (.aload_n 0, 1, 0, 0, 0), 0, 0, 0)), (57, (0, (.getfield 10, 3, 11, 0, 0), 0, 0, 0)), (60, (0, (.getfield 40, 3, 10, 2, 0), 0, 0, 0)), (63, (11, (.invokespecial 44, 3, 0, 0, 0), 3, 3, 0)), (66, (9, (.putfield 47, 3, 0, 0, 0), 11, 3, 0)), (69, (0, (.aload_n 0, 1, 0, 0, 0), 0, 0, 0)), (70, (6, (.new 30, 3, 0, 0, 0), 5, 4, 0)), (73, (0, (.dup, 1, 0, 0, 0), 0, 0, 0)), (74, (6, (.new 51, 3, 0, 0, 0), 9, 14, 0)), (77, (0, (.dup, 1, 0, 0, 0), 0, 0, 0)), (78, (11, (.invokespecial 53, 3, 0, 0, 0), 4, 0, 0)), (81, (6, (.new 54, 3, 0, 0, 0), 0, 3, 0)), (84, (0, (.dup, 1, 0, 0, 0), 0, 0, 0)), (85, (0, (.iconst 0, 1, 0, 0, 0), 0, 0, 0)), (86, (11, (.invokespecial 56, 3, 0, 0, 0), 5, 1, 0)), (89, (0, (.aload_n 0, 1, 0, 0, 0), 0, 0, 0)), (90, (0, (.getfield 10, 3, 11, 0, 0), 0, 0, 0)), (93, (0, (.getfield 40, 3, 10, 2, 0), 0, 0, 0)), (96, (11, (.invokespecial 44, 3, 0, 0, 0), 3, 3, 0)), (99, (9, (.putfield 59, 3, 0, 0, 0), 11, 4, 0)), (102, (0, (.aload_n 0, 1, 0, 0, 0), 0, 0, 0)), (103, (6, (.new 62, 3, 0, 0, 0), 3, 10, 0)), (106, (0, (.dup, 1, 0, 0, 0), 0, 0, 0)), (107, (0, (.aload_n 0, 1, 0, 0, 0), 0, 0, 0)), (108, (0, (.getfield 10, 3, 11, 0, 0), 0, 0, 0)), (111, (0, (.getfield 32, 3, 10, 0, 0), 0, 0, 0)), (114, (0, (.aload_n 0, 1, 0, 0, 0), 0, 0, 0)), (115, (0, (.getfield 10, 3, 11, 0, 0), 0, 0, 0)), (118, (0, (.getfield 40, 3, 10, 2, 0), 0, 0, 0)), (121, (0, (.aload_n 0, 1, 0, 0, 0), 0, 0, 0)), (122, (0, (.getfield 10, 3, 11, 0, 0), 0, 0, 0)), (125, (0, (.getfield 64, 3, 10, 3, 0), 0, 0, 0)), (128, (11, (.invokespecial 68, 3, 0, 0, 0), 6, 3, 0)), (131, (9, (.putfield 71, 3, 0, 0, 0), 11, 5, 0)), (134, (0, (.aload_n 0, 1, 0, 0, 0), 0, 0, 0)), (135, (16, (.aconst_null, 1, 0, 0, 0), 0, 0, 0)), (136, (9, (.putfield 75, 3, 0, 0, 0), 11, 6, 0)), (139, (4, (.return_, 1, 0, 0, 0), 0, 0, 0))]
def cfX11_init : ev_Cf := fun k vs S D => match k with
  | 0 => gX10_init vs S D
  | 1 => gX2_init vs S D
  | 2 => gX4_init vs S D
  | 3 => gX5_init vs S D
  | 4 => gX9_init vs S D
  | 5 => gX0_init vs S D
  | 6 => gX3_init vs S D
  | _ => none
def gX11_init (vs : List Value) (S : ev_S) (D : ev_D) : Option ev_Rs := bif vs.all ev_plain && decide (vs.length ≤ 1) then ev_run tbX11_init cfX11_init 4000 0 (vs.map some ++ List.replicate (1 - vs.length) none) [] (ev_z S) D else none
def tnX11_init : List (Nat × ev_Jn) := [(1, (12, (.invokespecial 1, 3, 0, 0, 0), 0, 0, 0)), (5, (6, (.new 7, 3, 0, 0, 0), 10, 4, 0)), (9, (11, (.invokespecial 9, 3, 0, 0, 0), 0, 0, 0)), (12, (9, (.putfield 10, 3, 0, 0, 0), 11, 0, 0)), (16, (6, (.new 16, 3, 0, 0, 0), 2, 4, 0)), (20, (11, (.invokespecial 18, 3, 0, 0, 0), 1, 0, 0)), (23, (9, (.putfield 19, 3, 0, 0, 0), 11, 1, 0)), (27, (6, (.new 23, 3, 0, 0, 0), 4, 12, 0)), (31, (11, (.invokespecial 25, 3, 0, 0, 0), 2, 0, 0)), (34, (9, (.putfield 26, 3, 0, 0, 0), 11, 2, 0)), (38, (6, (.new 30, 3, 0, 0, 0), 5, 4, 0)), (63, (11, (.invokespecial 44, 3, 0, 0, 0), 3, 3, 0)), (66, (9, (.putfield 47, 3, 0, 0, 0), 11, 3, 0)), (70, (6, (.new 30, 3, 0, 0, 0), 5, 4, 0)), (74, (6, (.new 51, 3, 0, 0, 0), 9, 14, 0)), (78, (11, (.invokespecial 53, 3, 0, 0, 0), 4, 0, 0)), (81, (6, (.new 54, 3, 0, 0, 0), 0, 3, 0)), (86, (11, (.invokespecial 56, 3, 0, 0, 0), 5, 1, 0)), (96, (11, (.invokespecial 44, 3, 0, 0, 0), 3, 3, 0)), (99, (9, (.putfield 59, 3, 0, 0, 0), 11, 4, 0)), (103, (6, (.new 62, 3, 0, 0, 0), 3, 10, 0)), (128, (11, (.invokespecial 68, 3, 0, 0, 0), 6, 3, 0)), (131, (9, (.putfield 71, 3, 0, 0, 0), 11, 5, 0)), (135, (16, (.aconst_null, 1, 0, 0, 0), 0, 0, 0)), (136, (9, (.putfield 75, 3, 0, 0, 0), 11, 6, 0)), (139, (4, (.return_, 1, 0, 0, 0), 0, 0, 0))]
set_option maxRecDepth 100000 in
theorem jX11_init_1 : ev_jok cfX11_init RX11 cX11_init 1 4 true 1 (12, (.invokespecial 1, 3, 0, 0, 0), 0, 0, 0) := ⟨1, (mt_1 (List.mem_of_getElem? (i := 28) rfl)), ac_oi, ac_oc, by decide, by decide +kernel⟩
set_option maxRecDepth 100000 in
theorem jX11_init_5 : ev_jok cfX11_init RX11 cX11_init 1 4 true 5 (6, (.new 7, 3, 0, 0, 0), 10, 4, 0) := ⟨7, (RX10, TX10, 4), rfl, rfl, (mt_1 (List.mem_of_getElem? (i := 31) rfl)), (mt_1 (List.mem_of_getElem? (i := 32) rfl)), (mt_1 (List.mem_of_getElem? (i := 2) rfl)), by decide +kernel⟩
set_option maxRecDepth 100000 in
theorem jX11_init_9 : ev_jok cfX11_init RX11 cX11_init 1 4 true 9 (11, (.invokespecial 9, 3, 0, 0, 0), 0, 0, 0) := ⟨9, yX10_init, cX10_init, 1, 3, YcX10_init, (Or.inr ⟨"DeafBells", (mt_1 (List.mem_of_getElem? (i := 33) rfl))⟩), by decide, by decide +kernel, fun vs S D v S2 D2 h => mgX10_init h⟩
set_option maxRecDepth 100000 in
theorem jX11_init_12 : ev_jok cfX11_init RX11 cX11_init 1 4 true 12 (9, (.putfield 10, 3, 0, 0, 0), 11, 0, 0) := ⟨10, (RX11, TX11, 7), rfl, by decide, (mt_2 (List.mem_of_getElem? (i := 181) rfl)), Or.inr ⟨rfl, rfl, rfl⟩, by decide +kernel⟩
set_option maxRecDepth 100000 in
theorem jX11_init_16 : ev_jok cfX11_init RX11 cX11_init 1 4 true 16 (6, (.new 16, 3, 0, 0, 0), 2, 4, 0) := ⟨16, (RX2, TX2, 4), rfl, rfl, (mt_2 (List.mem_of_getElem? (i := 45) rfl)), (mt_2 (List.mem_of_getElem? (i := 46) rfl)), (mt_1 (List.mem_of_getElem? (i := 11) rfl)), by decide +kernel⟩
set_option maxRecDepth 100000 in
theorem jX11_init_20 : ev_jok cfX11_init RX11 cX11_init 1 4 true 20 (11, (.invokespecial 18, 3, 0, 0, 0), 1, 0, 0) := ⟨18, yX2_init, cX2_init, 2, 2, YcX2_init, (Or.inl (mt_2 (List.mem_of_getElem? (i := 47) rfl))), by decide, by decide +kernel, fun vs S D v S2 D2 h => mgX2_init h⟩
set_option maxRecDepth 100000 in
theorem jX11_init_23 : ev_jok cfX11_init RX11 cX11_init 1 4 true 23 (9, (.putfield 19, 3, 0, 0, 0), 11, 1, 0) := ⟨19, (RX11, TX11, 7), rfl, by decide, (mt_2 (List.mem_of_getElem? (i := 182) rfl)), Or.inr ⟨rfl, rfl, rfl⟩, by decide +kernel⟩
set_option maxRecDepth 100000 in
theorem jX11_init_27 : ev_jok cfX11_init RX11 cX11_init 1 4 true 27 (6, (.new 23, 3, 0, 0, 0), 4, 12, 0) := ⟨23, (RX4, TX4, 12), rfl, rfl, (mt_2 (List.mem_of_getElem? (i := 68) rfl)), (mt_2 (List.mem_of_getElem? (i := 69) rfl)), (mt_1 (List.mem_of_getElem? (i := 12) rfl)), by decide +kernel⟩
set_option maxRecDepth 100000 in
theorem jX11_init_31 : ev_jok cfX11_init RX11 cX11_init 1 4 true 31 (11, (.invokespecial 25, 3, 0, 0, 0), 2, 0, 0) := ⟨25, yX4_init, cX4_init, 1, 3, YcX4_init, (Or.inr ⟨"DeafBells", (mt_2 (List.mem_of_getElem? (i := 70) rfl))⟩), by decide, by decide +kernel, fun vs S D v S2 D2 h => mgX4_init h⟩
set_option maxRecDepth 100000 in
theorem jX11_init_34 : ev_jok cfX11_init RX11 cX11_init 1 4 true 34 (9, (.putfield 26, 3, 0, 0, 0), 11, 2, 0) := ⟨26, (RX11, TX11, 7), rfl, by decide, (mt_2 (List.mem_of_getElem? (i := 183) rfl)), Or.inr ⟨rfl, rfl, rfl⟩, by decide +kernel⟩
set_option maxRecDepth 100000 in
theorem jX11_init_38 : ev_jok cfX11_init RX11 cX11_init 1 4 true 38 (6, (.new 30, 3, 0, 0, 0), 5, 4, 0) := ⟨30, (RX5, TX5, 4), rfl, rfl, (mt_2 (List.mem_of_getElem? (i := 117) rfl)), (mt_2 (List.mem_of_getElem? (i := 118) rfl)), (mt_1 (List.mem_of_getElem? (i := 13) rfl)), by decide +kernel⟩
set_option maxRecDepth 100000 in
theorem jX11_init_63 : ev_jok cfX11_init RX11 cX11_init 1 4 true 63 (11, (.invokespecial 44, 3, 0, 0, 0), 3, 3, 0) := ⟨44, yX5_init, cX5_init, 4, 1, YcX5_init, (Or.inl (mt_2 (List.mem_of_getElem? (i := 119) rfl))), by decide, by decide +kernel, fun vs S D v S2 D2 h => mgX5_init h⟩
set_option maxRecDepth 100000 in
theorem jX11_init_66 : ev_jok cfX11_init RX11 cX11_init 1 4 true 66 (9, (.putfield 47, 3, 0, 0, 0), 11, 3, 0) := ⟨47, (RX11, TX11, 7), rfl, by decide, (mt_2 (List.mem_of_getElem? (i := 184) rfl)), Or.inr ⟨rfl, rfl, rfl⟩, by decide +kernel⟩
set_option maxRecDepth 100000 in
theorem jX11_init_70 : ev_jok cfX11_init RX11 cX11_init 1 4 true 70 (6, (.new 30, 3, 0, 0, 0), 5, 4, 0) := ⟨30, (RX5, TX5, 4), rfl, rfl, (mt_2 (List.mem_of_getElem? (i := 117) rfl)), (mt_2 (List.mem_of_getElem? (i := 118) rfl)), (mt_1 (List.mem_of_getElem? (i := 13) rfl)), by decide +kernel⟩
set_option maxRecDepth 100000 in
theorem jX11_init_74 : ev_jok cfX11_init RX11 cX11_init 1 4 true 74 (6, (.new 51, 3, 0, 0, 0), 9, 14, 0) := ⟨51, (RX9, TX9, 14), rfl, rfl, (mt_2 (List.mem_of_getElem? (i := 137) rfl)), (mt_1 (List.mem_of_getElem? (i := 38) rfl)), (mt_1 (List.mem_of_getElem? (i := 3) rfl)), by decide +kernel⟩
set_option maxRecDepth 100000 in
theorem jX11_init_78 : ev_jok cfX11_init RX11 cX11_init 1 4 true 78 (11, (.invokespecial 53, 3, 0, 0, 0), 4, 0, 0) := ⟨53, yX9_init, cX9_init, 1, 1, YcX9_init, (Or.inl (mt_2 (List.mem_of_getElem? (i := 138) rfl))), by decide, by decide +kernel, fun vs S D v S2 D2 h => mgX9_init h⟩
set_option maxRecDepth 100000 in
theorem jX11_init_81 : ev_jok cfX11_init RX11 cX11_init 1 4 true 81 (6, (.new 54, 3, 0, 0, 0), 0, 3, 0) := ⟨54, (RX0, TX0, 3), rfl, rfl, (mt_2 (List.mem_of_getElem? (i := 139) rfl)), (mt_1 (List.mem_of_getElem? (i := 122) rfl)), (mt_1 (List.mem_of_getElem? (i := 5) rfl)), by decide +kernel⟩
set_option maxRecDepth 100000 in
theorem jX11_init_86 : ev_jok cfX11_init RX11 cX11_init 1 4 true 86 (11, (.invokespecial 56, 3, 0, 0, 0), 5, 1, 0) := ⟨56, yX0_init, cX0_init, 2, 1, YcX0_init, (Or.inl (mt_2 (List.mem_of_getElem? (i := 140) rfl))), by decide, by decide +kernel, fun vs S D v S2 D2 h => mgX0_init h⟩
set_option maxRecDepth 100000 in
theorem jX11_init_96 : ev_jok cfX11_init RX11 cX11_init 1 4 true 96 (11, (.invokespecial 44, 3, 0, 0, 0), 3, 3, 0) := ⟨44, yX5_init, cX5_init, 4, 1, YcX5_init, (Or.inl (mt_2 (List.mem_of_getElem? (i := 119) rfl))), by decide, by decide +kernel, fun vs S D v S2 D2 h => mgX5_init h⟩
set_option maxRecDepth 100000 in
theorem jX11_init_99 : ev_jok cfX11_init RX11 cX11_init 1 4 true 99 (9, (.putfield 59, 3, 0, 0, 0), 11, 4, 0) := ⟨59, (RX11, TX11, 7), rfl, by decide, (mt_2 (List.mem_of_getElem? (i := 185) rfl)), Or.inr ⟨rfl, rfl, rfl⟩, by decide +kernel⟩
set_option maxRecDepth 100000 in
theorem jX11_init_103 : ev_jok cfX11_init RX11 cX11_init 1 4 true 103 (6, (.new 62, 3, 0, 0, 0), 3, 10, 0) := ⟨62, (RX3, TX3, 10), rfl, rfl, (mt_2 (List.mem_of_getElem? (i := 141) rfl)), (mt_2 (List.mem_of_getElem? (i := 142) rfl)), (mt_1 (List.mem_of_getElem? (i := 14) rfl)), by decide +kernel⟩
set_option maxRecDepth 100000 in
theorem jX11_init_128 : ev_jok cfX11_init RX11 cX11_init 1 4 true 128 (11, (.invokespecial 68, 3, 0, 0, 0), 6, 3, 0) := ⟨68, yX3_init, cX3_init, 5, 1, YcX3_init, (Or.inl (mt_2 (List.mem_of_getElem? (i := 143) rfl))), by decide, by decide +kernel, fun vs S D v S2 D2 h => mgX3_init h⟩
set_option maxRecDepth 100000 in
theorem jX11_init_131 : ev_jok cfX11_init RX11 cX11_init 1 4 true 131 (9, (.putfield 71, 3, 0, 0, 0), 11, 5, 0) := ⟨71, (RX11, TX11, 7), rfl, by decide, (mt_2 (List.mem_of_getElem? (i := 186) rfl)), Or.inr ⟨rfl, rfl, rfl⟩, by decide +kernel⟩
set_option maxRecDepth 100000 in
theorem jX11_init_135 : ev_jok cfX11_init RX11 cX11_init 1 4 true 135 (16, (.aconst_null, 1, 0, 0, 0), 0, 0, 0) := by decide +kernel
set_option maxRecDepth 100000 in
theorem jX11_init_136 : ev_jok cfX11_init RX11 cX11_init 1 4 true 136 (9, (.putfield 75, 3, 0, 0, 0), 11, 6, 0) := ⟨75, (RX11, TX11, 7), rfl, by decide, (mt_2 (List.mem_of_getElem? (i := 187) rfl)), Or.inl rfl, by decide +kernel⟩
set_option maxRecDepth 100000 in
theorem jX11_init_139 : ev_jok cfX11_init RX11 cX11_init 1 4 true 139 (4, (.return_, 1, 0, 0, 0), 0, 0, 0) := by decide +kernel
set_option maxRecDepth 100000 in
theorem jnX11_init : ∀ e ∈ tnX11_init, ev_jok cfX11_init RX11 cX11_init 1 4 true e.1 e.2 := List.forall_mem_cons.mpr ⟨jX11_init_1, List.forall_mem_cons.mpr ⟨jX11_init_5, List.forall_mem_cons.mpr ⟨jX11_init_9, List.forall_mem_cons.mpr ⟨jX11_init_12, List.forall_mem_cons.mpr ⟨jX11_init_16, List.forall_mem_cons.mpr ⟨jX11_init_20, List.forall_mem_cons.mpr ⟨jX11_init_23, List.forall_mem_cons.mpr ⟨jX11_init_27, List.forall_mem_cons.mpr ⟨jX11_init_31, List.forall_mem_cons.mpr ⟨jX11_init_34, List.forall_mem_cons.mpr ⟨jX11_init_38, List.forall_mem_cons.mpr ⟨jX11_init_63, List.forall_mem_cons.mpr ⟨jX11_init_66, List.forall_mem_cons.mpr ⟨jX11_init_70, List.forall_mem_cons.mpr ⟨jX11_init_74, List.forall_mem_cons.mpr ⟨jX11_init_78, List.forall_mem_cons.mpr ⟨jX11_init_81, List.forall_mem_cons.mpr ⟨jX11_init_86, List.forall_mem_cons.mpr ⟨jX11_init_96, List.forall_mem_cons.mpr ⟨jX11_init_99, List.forall_mem_cons.mpr ⟨jX11_init_103, List.forall_mem_cons.mpr ⟨jX11_init_128, List.forall_mem_cons.mpr ⟨jX11_init_131, List.forall_mem_cons.mpr ⟨jX11_init_135, List.forall_mem_cons.mpr ⟨jX11_init_136, List.forall_mem_cons.mpr ⟨jX11_init_139, fun _ h => absurd h List.not_mem_nil⟩⟩⟩⟩⟩⟩⟩⟩⟩⟩⟩⟩⟩⟩⟩⟩⟩⟩⟩⟩⟩⟩⟩⟩⟩⟩
set_option maxRecDepth 100000 in
theorem jtX11_init : ∀ e ∈ tbX11_init, ev_jok cfX11_init RX11 cX11_init 1 4 true e.1 e.2 := ev_tball (lk := lk_RX11) lkok_RX11 (by decide +kernel) (by decide +kernel) jnX11_init
set_option maxRecDepth 100000 in
theorem mgX11_init {vs : List Value} {S : ev_S} {D : ev_D} {v : Int32} {S2 : ev_S} {D2 : ev_D} (h : gX11_init vs S D = some (v, S2, D2)) : ev_M 4 (sC S2) (sA S2) yX11_init cX11_init 1 none vs S D S2 (v, D2) := by
  unfold gX11_init at h
  obtain ⟨h1, h2, h3⟩ := ev_bif h
  exact ev_met (ini := true) (plainFor_of_name (by decide)) (fun _ => rfl) h1 h2 (fun F hR => ev_run_ok hR (Or.inl rfl) jtX11_init (ev_no5 (by decide +kernel)) 4000 0 _ [] (ev_z S) D h3)
def tbX12_init : List (Nat × ev_Jn) := [(0, (0, (.aload_n 0, 1, 0, 0, 0), 0, 0, 0)), (1, (12, (.invokespecial 1, 3, 0, 0, 0), 0, 0, 0)), (4, (0, (.aload_n 0, 1, 0, 0, 0), 0, 0, 0)), (5, (0, (.bipush 44, 2, 0, 0, 44), 0, 0, 0)), (7, (7, (.newarray .int, 2, 0, 0, 0), 0, 0, 0)), (9, (9, (.putfield 7, 3, 0, 0, 0), 12, 1, 0)), (12, (0, (.aload_n 0, 1, 0, 0, 0), 0, 0, 0)), (13, (0, (.sipush 264, 3, 0, 0, 264), 0, 0, 0)), (16, (7, (.newarray .int, 2, 0, 0, 0), 0, 0, 0)), (18, (9, (.putfield 13, 3, 0, 0, 0), 12, 2, 0)), (21, (0, (.aload_n 0, 1, 0, 0, 0), 0, 0, 0)), (22, (0, (.bipush 44, 2, 0, 0, 44), 0, 0, 0)), (24, (7, (.newarray .int, 2, 0, 0, 0), 0, 0, 0)), (26, (9, (.putfield 16, 3, 0, 0, 0), 12, 4, 0)), (29, (0, (.aload_n 0, 1, 0, 0, 0), 0, 0, 0)), (30, (0, (.bipush 8, 2, 0, 0, 8), 0, 0, 0)), (32, (7, (.newarray .int, 2, 0, 0, 0), 0, 0, 0)), (34, (9, (.putfield 19, 3, 0, 0, 0), 12, 6, 0)), (37, (0, (.aload_n 0, 1, 0, 0, 0), 0, 0, 0)), (38, (0, (.bipush 10, 2, 0, 0, 10), 0, 0, 0)), (40, (7, (.newarray .int, 2, 0, 0, 0), 0, 0, 0)), (42, (9, (.putfield 22, 3, 0, 0, 0), 12, 8, 0)), (45, (0, (.aload_n 0, 1, 0, 0, 0), 0, 0, 0)), (46, (0, (.bipush 10, 2, 0, 0, 10), 0, 0, 0)), (48, (7, (.newarray .int, 2, 0, 0, 0), 0, 0, 0)), (50, (9, (.putfield 25, 3, 0, 0, 0), 12, 9, 0)), (53, (0, (.aload_n 0, 1, 0, 0, 0), 0, 0, 0)), (54, (0, (.bipush 10, 2, 0, 0, 10), 0, 0, 0)), (56, (7, (.newarray .int, 2, 0, 0, 0), 0, 0, 0)), (58, (9, (.putfield 28, 3, 0, 0, 0), 12, 10, 0)), (61, (0, (.aload_n 0, 1, 0, 0, 0), 0, 0, 0)), (62, (0, (.sipush 600, 3, 0, 0, 600), 0, 0, 0)), (65, (7, (.newarray .int, 2, 0, 0, 0), 0, 0, 0)), (67, (9, (.putfield 31, 3, 0, 0, 0), 12, 11, 0)), (70, (0, (.aload_n 0, 1, 0, 0, 0), 0, 0, 0)), (71, (0, (.sipush 400, 3, 0, 0, 400), 0, 0, 0)), (74, (7, (.newarray .int, 2, 0, 0, 0), 0, 0, 0)), (76, (9, (.putfield 34, 3, 0, 0, 0), 12, 12, 0)), (79, (0, (.aload_n 0, 1, 0, 0, 0), 0, 0, 0)), (80, (0, (.sipush 152, 3, 0, 0, 152), 0, 0, 0)), (83, (7, (.newarray .int, 2, 0, 0, 0), 0, 0, 0)), (85, (0, (.dup, 1, 0, 0, 0), 0, 0, 0)), (86, (0, (.iconst 0, 1, 0, 0, 0), 0, 0, 0)), (87, (0, (.bipush 32, 2, 0, 0, 32), 0, 0, 0)), (89, (0, (.iastore, 1, 0, 0, 0), 0, 0, 0)), (90, (0, (.dup, 1, 0, 0, 0), 0, 0, 0)), (91, (0, (.iconst 1, 1, 0, 0, 1), 0, 0, 0)), (92, (0, (.bipush 112, 2, 0, 0, 112), 0, 0, 0)), (94, (0, (.iastore, 1, 0, 0, 0), 0, 0, 0)), (95, (0, (.dup, 1, 0, 0, 0), 0, 0, 0)), (96, (0, (.iconst 2, 1, 0, 0, 2), 0, 0, 0)), (97, (0, (.bipush 117, 2, 0, 0, 117), 0, 0, 0)), (99, (0, (.iastore, 1, 0, 0, 0), 0, 0, 0)), (100, (0, (.dup, 1, 0, 0, 0), 0, 0, 0)), (101, (0, (.iconst 3, 1, 0, 0, 3), 0, 0, 0)), (102, (0, (.bipush 108, 2, 0, 0, 108), 0, 0, 0)), (104, (0, (.iastore, 1, 0, 0, 0), 0, 0, 0)), (105, (0, (.dup, 1, 0, 0, 0), 0, 0, 0)), (106, (0, (.iconst 4, 1, 0, 0, 4), 0, 0, 0)), (107, (0, (.bipush 108, 2, 0, 0, 108), 0, 0, 0)), (109, (0, (.iastore, 1, 0, 0, 0), 0, 0, 0)), (110, (0, (.dup, 1, 0, 0, 0), 0, 0, 0)), (111, (0, (.iconst 5, 1, 0, 0, 5), 0, 0, 0)), (112, (0, (.bipush 32, 2, 0, 0, 32), 0, 0, 0)), (114, (0, (.iastore, 1, 0, 0, 0), 0, 0, 0)), (115, (0, (.dup, 1, 0, 0, 0), 0, 0, 0)), (116, (0, (.bipush 6, 2, 0, 0, 6), 0, 0, 0)), (118, (0, (.bipush 104, 2, 0, 0, 104), 0, 0, 0)), (120, (0, (.iastore, 1, 0, 0, 0), 0, 0, 0)), (121, (0, (.dup, 1, 0, 0, 0), 0, 0, 0)), (122, (0, (.bipush 7, 2, 0, 0, 7), 0, 0, 0)), (124, (0, (.bipush 97, 2, 0, 0, 97), 0, 0, 0)), (126, (0, (.iastore, 1, 0, 0, 0), 0, 0, 0)), (127, (0, (.dup, 1, 0, 0, 0), 0, 0, 0)), (128, (0, (.bipush 8, 2, 0, 0, 8), 0, 0, 0)), (130, (0, (.bipush 114, 2, 0, 0, 114), 0, 0, 0)), (132, (0, (.iastore, 1, 0, 0, 0), 0, 0, 0)), (133, (0, (.dup, 1, 0, 0, 0), 0, 0, 0)), (134, (0, (.bipush 9, 2, 0, 0, 9), 0, 0, 0)), (136, (0, (.bipush 100, 2, 0, 0, 100), 0, 0, 0)), (138, (0, (.iastore, 1, 0, 0, 0), 0, 0, 0)), (139, (0, (.dup, 1, 0, 0, 0), 0, 0, 0)), (140, (0, (.bipush 10, 2, 0, 0, 10), 0, 0, 0)), (142, (0, (.bipush 32, 2, 0, 0, 32), 0, 0, 0)), (144, (0, (.iastore, 1, 0, 0, 0), 0, 0, 0)), (145, (0, (.dup, 1, 0, 0, 0), 0, 0, 0)), (146, (0, (.bipush 11, 2, 0, 0, 11), 0, 0, 0)), (148, (0, (.bipush 108, 2, 0, 0, 108), 0, 0, 0)), (150, (0, (.iastore, 1, 0, 0, 0), 0, 0, 0)), (151, (0, (.dup, 1, 0, 0, 0), 0, 0, 0)), (152, (0, (.bipush 12, 2, 0, 0, 12), 0, 0, 0)), (154, (0, (.bipush 111, 2, 0, 0, 111), 0, 0, 0)), (156, (0, (.iastore, 1, 0, 0, 0), 0, 0, 0)), (157, (0, (.dup, 1, 0, 0, 0), 0, 0, 0)), (158, (0, (.bipush 13, 2, 0, 0, 13), 0, 0, 0)), (160, (0, (.bipush 115, 2, 0, 0, 115), 0, 0, 0)), (162, (0, (.iastore, 1, 0, 0, 0), 0, 0, 0)), (163, (0, (.dup, 1, 0, 0, 0), 0, 0, 0)), (164, (0, (.bipush 14, 2, 0, 0, 14), 0, 0, 0)), (166, (0, (.bipush 116, 2, 0, 0, 116), 0, 0, 0)), (168, (0, (.iastore, 1, 0, 0, 0), 0, 0, 0)), (169, (0, (.dup, 1, 0, 0, 0), 0, 0, 0)), (170, (0, (.bipush 15, 2, 0, 0, 15), 0, 0, 0)), (172, (0, (.bipush 32, 2, 0, 0, 32), 0, 0, 0)), (174, (0, (.iastore, 1, 0, 0, 0), 0, 0, 0)), (175, (0, (.dup, 1, 0, 0, 0), 0, 0, 0)), (176, (0, (.bipush 16, 2, 0, 0, 16), 0, 0, 0)), (178, (0, (.bipush 119, 2, 0, 0, 119), 0, 0, 0)), (180, (0, (.iastore, 1, 0, 0, 0), 0, 0, 0)), (181, (0, (.dup, 1, 0, 0, 0), 0, 0, 0)), (182, (0, (.bipush 17, 2, 0, 0, 17), 0, 0, 0)), (184, (0, (.bipush 104, 2, 0, 0, 104), 0, 0, 0)), (186, (0, (.iastore, 1, 0, 0, 0), 0, 0, 0)), (187, (0, (.dup, 1, 0, 0, 0), 0, 0, 0)), (188, (0, (.bipush 18, 2, 0, 0, 18), 0, 0, 0)), (190, (0, (.bipush 101, 2, 0, 0, 101), 0, 0, 0)), (192, (0, (.iastore, 1, 0, 0, 0), 0, 0, 0)), (193, (0, (.dup, 1, 0, 0, 0), 0, 0, 0)), (194, (0, (.bipush 19, 2, 0, 0, 19), 0, 0, 0)), (196, (0, (.bipush 110, 2, 0, 0, 110), 0, 0, 0)), (198, (0, (.iastore, 1, 0, 0, 0), 0, 0, 0)), (199, (0, (.dup, 1, 0, 0, 0), 0, 0, 0)), (200, (0, (.bipush 20, 2, 0, 0, 20), 0, 0, 0)), (202, (0, (.bipush 32, 2, 0, 0, 32), 0, 0, 0)), (204, (0, (.iastore, 1, 0, 0, 0), 0, 0, 0)), (205, (0, (.dup, 1, 0, 0, 0), 0, 0, 0)), (206, (0, (.bipush 21, 2, 0, 0, 21), 0, 0, 0)), (208, (0, (.bipush 111, 2, 0, 0, 111), 0, 0, 0)), (210, (0, (.iastore, 1, 0, 0, 0), 0, 0, 0)), (211, (0, (.dup, 1, 0, 0, 0), 0, 0, 0)), (212, (0, (.bipush 22, 2, 0, 0, 22), 0, 0, 0)), (214, (0, (.bipush 114, 2, 0, 0, 114), 0, 0, 0)), (216, (0, (.iastore, 1, 0, 0, 0), 0, 0, 0)), (217, (0, (.dup, 1, 0, 0, 0), 0, 0, 0)), (218, (0, (.bipush 23, 2, 0, 0, 23), 0, 0, 0)), (220, (0, (.bipush 32, 2, 0, 0, 32), 0, 0, 0)), (222, (0, (.iastore, 1, 0, 0, 0), 0, 0, 0)), (223, (0, (.dup, 1, 0, 0, 0), 0, 0, 0)), (224, (0, (.bipush 24, 2, 0, 0, 24), 0, 0, 0)), (226, (0, (.bipush 97, 2, 0, 0, 97), 0, 0, 0)), (228, (0, (.iastore, 1, 0, 0, 0), 0, 0, 0)), (229, (0, (.dup, 1, 0, 0, 0), 0, 0, 0)), (230, (0, (.bipush 25, 2, 0, 0, 25), 0, 0, 0)), (232, (0, (.bipush 110, 2, 0, 0, 110), 0, 0, 0)), (234, (0, (.iastore, 1, 0, 0, 0), 0, 0, 0)), (235, (0, (.dup, 1, 0, 0, 0), 0, 0, 0)), (236, (0, (.bipush 26, 2, 0, 0, 26), 0, 0, 0)), (238, (0, (.bipush 100, 2, 0, 0, 100), 0, 0, 0)), (240, (0, (.iastore, 1, 0, 0, 0), 0, 0, 0)), (241, (0, (.dup, 1, 0, 0, 0), 0, 0, 0)), (242, (0, (.bipush 27, 2, 0, 0, 27), 0, 0, 0)), (244, (0, (.bipush 32, 2, 0, 0, 32), 0, 0, 0)), (246, (0, (.iastore, 1, 0, 0, 0), 0, 0, 0)), (247, (0, (.dup, 1, 0, 0, 0), 0, 0, 0)), (248, (0, (.bipush 28, 2, 0, 0, 28), 0, 0, 0)), (250, (0, (.bipush 110, 2, 0, 0, 110), 0, 0, 0)), (252, (0, (.iastore, 1, 0, 0, 0), 0, 0, 0)), (253, (0, (.dup, 1, 0, 0, 0), 0, 0, 0)), (254, (0, (.bipush 29, 2, 0, 0, 29), 0, 0, 0)), (256, (0, (.bipush 111, 2, 0, 0, 111), 0, 0, 0)), (258, (0, (.iastore, 1, 0, 0, 0), 0, 0, 0)), (259, (0, (.dup, 1, 0, 0, 0), 0, 0, 0)), (260, (0, (.bipush 30, 2, 0, 0, 30), 0, 0, 0)), (262, (0, (.bipush 116, 2, 0, 0, 116), 0, 0, 0)), (264, (0, (.iastore, 1, 0, 0, 0), 0, 0, 0)), (265, (0, (.dup, 1, 0, 0, 0), 0, 0, 0)), (266, (0, (.bipush 31, 2, 0, 0, 31), 0, 0, 0)), (268, (0, (.bipush 32, 2, 0, 0, 32), 0, 0, 0)), (270, (0, (.iastore, 1, 0, 0, 0), 0, 0, 0)), (271, (0, (.dup, 1, 0, 0, 0), 0, 0, 0)), (272, (0, (.bipush 32, 2, 0, 0, 32), 0, 0, 0)), (274, (0, (.bipush 102, 2, 0, 0, 102), 0, 0, 0)), (276, (0, (.iastore, 1, 0, 0, 0), 0, 0, 0)), (277, (0, (.dup, 1, 0, 0, 0), 0, 0, 0)), (278, (0, (.bipush 33, 2, 0, 0, 33), 0, 0, 0)), (280, (0, (.bipush 101, 2, 0, 0, 101), 0, 0, 0)), (282, (0, (.iastore, 1, 0, 0, 0), 0, 0, 0)), (283, (0, (.dup, 1, 0, 0, 0), 0, 0, 0)), (284, (0, (.bipush 34, 2, 0, 0, 34), 0, 0, 0)), (286, (0, (.bipush 101, 2, 0, 0, 101), 0, 0, 0)), (288, (0, (.iastore, 1, 0, 0, 0), 0, 0, 0)), (289, (0, (.dup, 1, 0, 0, 0), 0, 0, 0)), (290, (0, (.bipush 35, 2, 0, 0, 35), 0, 0, 0)), (292, (0, (.bipush 108, 2, 0, 0, 108), 0, 0, 0)), (294, (0, (.iastore, 1, 0, 0, 0), 0, 0, 0)), (295, (0, (.dup, 1, 0, 0, 0), 0, 0, 0)), (296, (0, (.bipush 36, 2, 0, 0, 36), 0, 0, 0)), (298, (0, (.bipush 32, 2, 0, 0, 32), 0, 0, 0)), (300, (0, (.iastore, 1, 0, 0, 0), 0, 0, 0)), (301, (0, (.dup, 1, 0, 0, 0), 0, 0, 0)), (302, (0, (.bipush 37, 2, 0, 0, 37), 0, 0, 0)), (304, (0, (.bipush 97, 2, 0, 0, 97), 0, 0, 0)), (306, (0, (.iastore, 1, 0, 0, 0), 0, 0, 0)), (307, (0, (.dup, 1, 0, 0, 0), 0, 0, 0)), (308, (0, (.bipush 38, 2, 0, 0, 38), 0, 0, 0)), (310, (0, (.bipush 114, 2, 0, 0, 114), 0, 0, 0)), (312, (0, (.iastore, 1, 0, 0, 0), 0, 0, 0)), (313, (0, (.dup, 1, 0, 0, 0), 0, 0, 0)), (314, (0, (.bipush 39, 2, 0, 0, 39), 0, 0, 0)), (316, (0, (.bipush 109, 2, 0, 0, 109), 0, 0, 0)), (318, (0, (.iastore, 1, 0, 0, 0), 0, 0, 0)), (319, (0, (.dup, 1, 0, 0, 0), 0, 0, 0)), (320, (0, (.bipush 40, 2, 0, 0, 40), 0, 0, 0)), (322, (0, (.bipush 32, 2, 0, 0, 32), 0, 0, 0)), (324, (0, (.iastore, 1, 0, 0, 0), 0, 0, 0)), (325, (0, (.dup, 1, 0, 0, 0), 0, 0, 0)), (326, (0, (.bipush 41, 2, 0, 0, 41), 0, 0, 0)), (328, (0, (.bipush 104, 2, 0, 0, 104), 0, 0, 0)), (330, (0, (.iastore, 1, 0, 0, 0), 0, 0, 0)), (331, (0, (.dup, 1, 0, 0, 0), 0, 0, 0)), (332, (0, (.bipush 42, 2, 0, 0, 42), 0, 0, 0)), (334, (0, (.bipush 117, 2, 0, 0, 117), 0, 0, 0)), (336, (0, (.iastore, 1, 0, 0, 0), 0, 0, 0)), (337, (0, (.dup, 1, 0, 0, 0), 0, 0, 0)), (338, (0, (.bipush 43, 2, 0, 0, 43), 0, 0, 0)), (340, (0, (.bipush 110, 2, 0, 0, 110), 0, 0, 0)), (342, (0, (.iastore, 1, 0, 0, 0), 0, 0, 0)), (343, (0, (.dup, 1, 0, 0, 0), 0, 0, 0)), (344, (0, (.bipush 44, 2, 0, 0, 44), 0, 0, 0)), (346, (0, (.bipush 103, 2, 0, 0, 103), 0, 0, 0)), (348, (0, (.iastore, 1, 0, 0, 0), 0, 0, 0)), (349, (0, (.dup, 1, 0, 0, 0), 0, 0, 0)), (350, (0, (.bipush 45, 2, 0, 0, 45), 0, 0, 0)), (352, (0, (.bipush 101, 2, 0, 0, 101), 0, 0, 0)), (354, (0, (.iastore, 1, 0, 0, 0), 0, 0, 0)), (355, (0, (.dup, 1, 0, 0, 0), 0, 0, 0)), (356, (0, (.bipush 46, 2, 0, 0, 46), 0, 0, 0)), (358, (0, (.bipush 114, 2, 0, 0, 114), 0, 0, 0)), (360, (0, (.iastore, 1, 0, 0, 0), 0, 0, 0)), (361, (0, (.dup, 1, 0, 0, 0), 0, 0, 0)), (362, (0, (.bipush 47, 2, 0, 0, 47), 0, 0, 0)), (364, (0, (.bipush 32, 2, 0, 0, 32), 0, 0, 0)), (366, (0, (.iastore, 1, 0, 0, 0), 0, 0, 0)), (367, (0, (.dup, 1, 0, 0, 0), 0, 0, 0)), (368, (0, (.bipush 48, 2, 0, 0, 48), 0, 0, 0)), (370, (0, (.bipush 116, 2, 0, 0, 116), 0, 0, 0)), (372, (0, (.iastore, 1, 0, 0, 0), 0, 0, 0)), (373, (0, (.dup, 1, 0, 0, 0), 0, 0, 0)), (374, (0, (.bipush 49, 2, 0, 0, 49), 0, 0, 0)), (376, (0, (.bipush 105, 2, 0, 0, 105), 0, 0, 0)), (378, (0, (.iastore, 1, 0, 0, 0), 0, 0, 0)), (379, (0, (.dup, 1, 0, 0, 0), 0, 0, 0)), (380, (0, (.bipush 50, 2, 0, 0, 50), 0, 0, 0)), (382, (0, (.bipush 114, 2, 0, 0, 114), 0, 0, 0)), (384, (0, (.iastore, 1, 0, 0, 0), 0, 0, 0)), (385, (0, (.dup, 1, 0, 0, 0), 0, 0, 0)), (386, (0, (.bipush 51, 2, 0, 0, 51), 0, 0, 0)), (388, (0, (.bipush 101, 2, 0, 0, 101), 0, 0, 0)), (390, (0, (.iastore, 1, 0, 0, 0), 0, 0, 0)), (391, (0, (.dup, 1, 0, 0, 0), 0, 0, 0)), (392, (0, (.bipush 52, 2, 0, 0, 52), 0, 0, 0)), (394, (0, (.bipush 100, 2, 0, 0, 100), 0, 0, 0)), (396, (0, (.iastore, 1, 0, 0, 0), 0, 0, 0)), (397, (0, (.dup, 1, 0, 0, 0), 0, 0, 0)), (398, (0, (.bipush 53, 2, 0, 0, 53), 0, 0, 0)), (400, (0, (.bipush 32, 2, 0, 0, 32), 0, 0, 0)), (402, (0, (.iastore, 1, 0, 0, 0), 0, 0, 0)), (403, (0, (.dup, 1, 0, 0, 0), 0, 0, 0)), (404, (0, (.bipush 54, 2, 0, 0, 54), 0, 0, 0)), (406, (0, (.bipush 98, 2, 0, 0, 98), 0, 0, 0)), (408, (0, (.iastore, 1, 0, 0, 0), 0, 0, 0)), (409, (0, (.dup, 1, 0, 0, 0), 0, 0, 0)), (410, (0, (.bipush 55, 2, 0, 0, 55), 0, 0, 0)), (412, (0, (.bipush 101, 2, 0, 0, 101), 0, 0, 0)), (414, (0, (.iastore, 1, 0, 0, 0), 0, 0, 0)), (415, (0, (.dup, 1, 0, 0, 0), 0, 0, 0)), (416, (0, (.bipush 56, 2, 0, 0, 56), 0, 0, 0)), (418, (0, (.bipush 108, 2, 0, 0, 108), 0, 0, 0)), (420, (0, (.iastore, 1, 0, 0, 0), 0, 0, 0)), (421, (0, (.dup, 1, 0, 0, 0), 0, 0, 0)), (422, (0, (.bipush 57, 2, 0, 0, 57), 0, 0, 0)), (424, (0, (.bipush 108, 2, 0, 0, 108), 0, 0, 0)), (426, (0, (.iastore, 1, 0, 0, 0), 0, 0, 0)), (427, (0, (.dup, 1, 0, 0, 0), 0, 0, 0)), (428, (0, (.bipush 58, 2, 0, 0, 58), 0, 0, 0)), (430, (0, (.bipush 32, 2, 0, 0, 32), 0, 0, 0)), (432, (0, (.iastore, 1, 0, 0, 0), 0, 0, 0)), (433, (0, (.dup, 1, 0, 0, 0), 0, 0, 0)), (434, (0, (.bipush 59, 2, 0, 0, 59), 0, 0, 0)), (436, (0, (.bipush 104, 2, 0, 0, 104), 0, 0, 0)), (438, (0, (.iastore, 1, 0, 0, 0), 0, 0, 0)), (439, (0, (.dup, 1, 0, 0, 0), 0, 0, 0)), (440, (0, (.bipush 60, 2, 0, 0, 60), 0, 0, 0)), (442, (0, (.bipush 101, 2, 0, 0, 101), 0, 0, 0)), (444, (0, (.iastore, 1, 0, 0, 0), 0, 0, 0)), (445, (0, (.dup, 1, 0, 0, 0), 0, 0, 0)), (446, (0, (.bipush 61, 2, 0, 0, 61), 0, 0, 0)), (448, (0, (.bipush 97, 2, 0, 0, 97), 0, 0, 0)), (450, (0, (.iastore, 1, 0, 0, 0), 0, 0, 0)), (451, (0, (.dup, 1, 0, 0, 0), 0, 0, 0)), (452, (0, (.bipush 62, 2, 0, 0, 62), 0, 0, 0)), (454, (0, (.bipush 118, 2, 0, 0, 118), 0, 0, 0)), (456, (0, (.iastore, 1, 0, 0, 0), 0, 0, 0)), (457, (0, (.dup, 1, 0, 0, 0), 0, 0, 0)), (458, (0, (.bipush 63, 2, 0, 0, 63), 0, 0, 0)), (460, (0, (.bipush 121, 2, 0, 0, 121), 0, 0, 0)), (462, (0, (.iastore, 1, 0, 0, 0), 0, 0, 0)), (463, (0, (.dup, 1, 0, 0, 0), 0, 0, 0)), (464, (0, (.bipush 64, 2, 0, 0, 64), 0, 0, 0)), (466, (0, (.bipush 32, 2, 0, 0, 32), 0, 0, 0)), (468, (0, (.iastore, 1, 0, 0, 0), 0, 0, 0)), (469, (0, (.dup, 1, 0, 0, 0), 0, 0, 0)), (470, (0, (.bipush 65, 2, 0, 0, 65), 0, 0, 0)), (472, (0, (.bipush 115, 2, 0, 0, 115), 0, 0, 0)), (474, (0, (.iastore, 1, 0, 0, 0), 0, 0, 0)), (475, (0, (.dup, 1, 0, 0, 0), 0, 0, 0)), (476, (0, (.bipush 66, 2, 0, 0, 66), 0, 0, 0)), (478, (0, (.bipush 119, 2, 0, 0, 119), 0, 0, 0)), (480, (0, (.iastore, 1, 0, 0, 0), 0, 0, 0)), (481, (0, (.dup, 1, 0, 0, 0), 0, 0, 0)), (482, (0, (.bipush 67, 2, 0, 0, 67), 0, 0, 0)), (484, (0, (.bipush 97, 2, 0, 0, 97), 0, 0, 0)), (486, (0, (.iastore, 1, 0, 0, 0), 0, 0, 0)), (487, (0, (.dup, 1, 0, 0, 0), 0, 0, 0)), (488, (0, (.bipush 68, 2, 0, 0, 68), 0, 0, 0)), (490, (0, (.bipush 121, 2, 0, 0, 121), 0, 0, 0)), (492, (0, (.iastore, 1, 0, 0, 0), 0, 0, 0)), (493, (0, (.dup, 1, 0, 0, 0), 0, 0, 0)), (494, (0, (.bipush 69, 2, 0, 0, 69), 0, 0, 0)), (496, (0, (.bipush 32, 2, 0, 0, 32), 0, 0, 0)), (498, (0, (.iastore, 1, 0, 0, 0), 0, 0, 0)), (499, (0, (.dup, 1, 0, 0, 0), 0, 0, 0)), (500, (0, (.bipush 70, 2, 0, 0, 70), 0, 0, 0)), (502, (0, (.bipush 102, 2, 0, 0, 102), 0, 0, 0)), (504, (0, (.iastore, 1, 0, 0, 0), 0, 0, 0)), (505, (0, (.dup, 1, 0, 0, 0), 0, 0, 0)), (506, (0, (.bipush 71, 2, 0, 0, 71), 0, 0, 0)), (508, (0, (.bipush 111, 2, 0, 0, 111), 0, 0, 0)), (510, (0, (.iastore, 1, 0, 0, 0), 0, 0, 0)), (511, (0, (.dup, 1, 0, 0, 0), 0, 0, 0)), (512, (0, (.bipush 72, 2, 0, 0, 72), 0, 0, 0)), (514, (0, (.bipush 108, 2, 0, 0, 108), 0, 0, 0)), (516, (0, (.iastore, 1, 0, 0, 0), 0, 0, 0)), (517, (0, (.dup, 1, 0, 0, 0), 0, 0, 0)), (518, (0, (.bipush 73, 2, 0, 0, 73), 0, 0, 0)), (520, (0, (.bipush 107, 2, 0, 0, 107), 0, 0, 0)), (522, (0, (.iastore, 1, 0, 0, 0), 0, 0, 0)), (523, (0, (.dup, 1, 0, 0, 0), 0, 0, 0)), (524, (0, (.bipush 74, 2, 0, 0, 74), 0, 0, 0)), (526, (0, (.bipush 32, 2, 0, 0, 32), 0, 0, 0)), (528, (0, (.iastore, 1, 0, 0, 0), 0, 0, 0)), (529, (0, (.dup, 1, 0, 0, 0), 0, 0, 0)), (530, (0, (.bipush 75, 2, 0, 0, 75), 0, 0, 0)), (532, (0, (.bipush 100, 2, 0, 0, 100), 0, 0, 0)), (534, (0, (.iastore, 1, 0, 0, 0), 0, 0, 0)), (535, (0, (.dup, 1, 0, 0, 0), 0, 0, 0)), (536, (0, (.bipush 76, 2, 0, 0, 76), 0, 0, 0)), (538, (0, (.bipush 114, 2, 0, 0, 114), 0, 0, 0)), (540, (0, (.iastore, 1, 0, 0, 0), 0, 0, 0)), (541, (0, (.dup, 1, 0, 0, 0), 0, 0, 0)), (542, (0, (.bipush 77, 2, 0, 0, 77), 0, 0, 0)), (544, (0, (.bipush 97, 2, 0, 0, 97), 0, 0, 0)), (546, (0, (.iastore, 1, 0, 0, 0), 0, 0, 0)), (547, (0, (.dup, 1, 0, 0, 0), 0, 0, 0)), (548, (0, (.bipush 78, 2, 0, 0, 78), 0, 0, 0)), (550, (0, (.bipush 117, 2, 0, 0, 117), 0, 0, 0)), (552, (0, (.iastore, 1, 0, 0, 0), 0, 0, 0)), (553, (0, (.dup, 1, 0, 0, 0), 0, 0, 0)), (554, (0, (.bipush 79, 2, 0, 0, 79), 0, 0, 0)), (556, (0, (.bipush 103, 2, 0, 0, 103), 0, 0, 0)), (558, (0, (.iastore, 1, 0, 0, 0), 0, 0, 0)), (559, (0, (.dup, 1, 0, 0, 0), 0, 0, 0)), (560, (0, (.bipush 80, 2, 0, 0, 80), 0, 0, 0)), (562, (0, (.bipush 104, 2, 0, 0, 104), 0, 0, 0)), (564, (0, (.iastore, 1, 0, 0, 0), 0, 0, 0)), (565, (0, (.dup, 1, 0, 0, 0), 0, 0, 0)), (566, (0, (.bipush 81, 2, 0, 0, 81), 0, 0, 0)), (568, (0, (.bipush 116, 2, 0, 0, 116), 0, 0, 0)), (570, (0, (.iastore, 1, 0, 0, 0), 0, 0, 0)), (571, (0, (.dup, 1, 0, 0, 0), 0, 0, 0)), (572, (0, (.bipush 82, 2, 0, 0, 82), 0, 0, 0)), (574, (0, (.bipush 32, 2, 0, 0, 32), 0, 0, 0)), (576, (0, (.iastore, 1, 0, 0, 0), 0, 0, 0)), (577, (0, (.dup, 1, 0, 0, 0), 0, 0, 0)), (578, (0, (.bipush 83, 2, 0, 0, 83), 0, 0, 0)), (580, (0, (.bipush 104, 2, 0, 0, 104), 0, 0, 0)), (582, (0, (.iastore, 1, 0, 0, 0), 0, 0, 0)), (583, (0, (.dup, 1, 0, 0, 0), 0, 0, 0)), (584, (0, (.bipush 84, 2, 0, 0, 84), 0, 0, 0)), (586, (0, (.bipush 111, 2, 0, 0, 111), 0, 0, 0)), (588, (0, (.iastore, 1, 0, 0, 0), 0, 0, 0)), (589, (0, (.dup, 1, 0, 0, 0), 0, 0, 0)), (590, (0, (.bipush 85, 2, 0, 0, 85), 0, 0, 0)), (592, (0, (.bipush 117, 2, 0, 0, 117), 0, 0, 0)), (594, (0, (.iastore, 1, 0, 0, 0), 0, 0, 0)), (595, (0, (.dup, 1, 0, 0, 0), 0, 0, 0)), (596, (0, (.bipush 86, 2, 0, 0, 86), 0, 0, 0)), (598, (0, (.bipush 114, 2, 0, 0, 114), 0, 0, 0)), (600, (0, (.iastore, 1, 0, 0, 0), 0, 0, 0)), (601, (0, (.dup, 1, 0, 0, 0), 0, 0, 0)), (602, (0, (.bipush 87, 2, 0, 0, 87), 0, 0, 0)), (604, (0, (.bipush 32, 2, 0, 0, 32), 0, 0, 0)), (606, (0, (.iastore, 1, 0, 0, 0), 0, 0, 0)), (607, (0, (.dup, 1, 0, 0, 0), 0, 0, 0)), (608, (0, (.bipush 88, 2, 0, 0, 88), 0, 0, 0)), (610, (0, (.bipush 102, 2, 0, 0, 102), 0, 0, 0)), (612, (0, (.iastore, 1, 0, 0, 0), 0, 0, 0)), (613, (0, (.dup, 1, 0, 0, 0), 0, 0, 0)), (614, (0, (.bipush 89, 2, 0, 0, 89), 0, 0, 0)), (616, (0, (.bipush 101, 2, 0, 0, 101), 0, 0, 0)), (618, (0, (.iastore, 1, 0, 0, 0), 0, 0, 0)), (619, (0, (.dup, 1, 0, 0, 0), 0, 0, 0)), (620, (0, (.bipush 90, 2, 0, 0, 90), 0, 0, 0)), (622, (0, (.bipush 108, 2, 0, 0, 108), 0, 0, 0)), (624, (0, (.iastore, 1, 0, 0, 0), 0, 0, 0)), (625, (0, (.dup, 1, 0, 0, 0), 0, 0, 0)), (626, (0, (.bipush 91, 2, 0, 0, 91), 0, 0, 0)), (628, (0, (.bipush 116, 2, 0, 0, 116), 0, 0, 0)), (630, (0, (.iastore, 1, 0, 0, 0), 0, 0, 0)), (631, (0, (.dup, 1, 0, 0, 0), 0, 0, 0)), (632, (0, (.bipush 92, 2, 0, 0, 92), 0, 0, 0)), (634, (0, (.bipush 32, 2, 0, 0, 32), 0, 0, 0)), (636, (0, (.iastore, 1, 0, 0, 0), 0, 0, 0)), (637, (0, (.dup, 1, 0, 0, 0), 0, 0, 0)), (638, (0, (.bipush 93, 2, 0, 0, 93), 0, 0, 0)), (640, (0, (.bipush 114, 2, 0, 0, 114), 0, 0, 0)), (642, (0, (.iastore, 1, 0, 0, 0), 0, 0, 0)), (643, (0, (.dup, 1, 0, 0, 0), 0, 0, 0)), (644, (0, (.bipush 94, 2, 0, 0, 94), 0, 0, 0)), (646, (0, (.bipush 105, 2, 0, 0, 105), 0, 0, 0)), (648, (0, (.iastore, 1, 0, 0, 0), 0, 0, 0)), (649, (0, (.dup, 1, 0, 0, 0), 0, 0, 0)), (650, (0, (.bipush 95, 2, 0, 0, 95), 0, 0, 0)), (652, (0, (.bipush 110, 2, 0, 0, 110), 0, 0, 0)), (654, (0, (.iastore, 1, 0, 0, 0), 0, 0, 0)), (655, (0, (.dup, 1, 0, 0, 0), 0, 0, 0)), (656, (0, (.bipush 96, 2, 0, 0, 96), 0, 0, 0)), (658, (0, (.bipush 103, 2, 0, 0, 103), 0, 0, 0)), (660, (0, (.iastore, 1, 0, 0, 0), 0, 0, 0)), (661, (0, (.dup, 1, 0, 0, 0), 0, 0, 0)), (662, (0, (.bipush 97, 2, 0, 0, 97), 0, 0, 0)), (664, (0, (.bipush 101, 2, 0, 0, 101), 0, 0, 0)), (666, (0, (.iastore, 1, 0, 0, 0), 0, 0, 0)), (667, (0, (.dup, 1, 0, 0, 0), 0, 0, 0)), (668, (0, (.bipush 98, 2, 0, 0, 98), 0, 0, 0)), (670, (0, (.bipush 114, 2, 0, 0, 114), 0, 0, 0)), (672, (0, (.iastore, 1, 0, 0, 0), 0, 0, 0)), (673, (0, (.dup, 1, 0, 0, 0), 0, 0, 0)), (674, (0, (.bipush 99, 2, 0, 0, 99), 0, 0, 0)), (676, (0, (.bipush 32, 2, 0, 0, 32), 0, 0, 0)), (678, (0, (.iastore, 1, 0, 0, 0), 0, 0, 0)), (679, (0, (.dup, 1, 0, 0, 0), 0, 0, 0)), (680, (0, (.bipush 100, 2, 0, 0, 100), 0, 0, 0)), (682, (0, (.bipush 102, 2, 0, 0, 102), 0, 0, 0)), (684, (0, (.iastore, 1, 0, 0, 0), 0, 0, 0)), (685, (0, (.dup, 1, 0, 0, 0), 0, 0, 0)), (686, (0, (.bipush 101, 2, 0, 0, 101), 0, 0, 0)), (688, (0, (.bipush 101, 2, 0, 0, 101), 0, 0, 0)), (690, (0, (.iastore, 1, 0, 0, 0), 0, 0, 0)), (691, (0, (.dup, 1, 0, 0, 0), 0, 0, 0)), (692, (0, (.bipush 102, 2, 0, 0, 102), 0, 0, 0)), (694, (0, (.bipush 101, 2, 0, 0, 101), 0, 0, 0)), (696, (0, (.iastore, 1, 0, 0, 0), 0, 0, 0)), (697, (0, (.dup, 1, 0, 0, 0), 0, 0, 0)), (698, (0, (.bipush 103, 2, 0, 0, 103), 0, 0, 0)), (700, (0, (.bipush 108, 2, 0, 0, 108), 0, 0, 0)), (702, (0, (.iastore, 1, 0, 0, 0), 0, 0, 0)), (703, (0, (.dup, 1, 0, 0, 0), 0, 0, 0)), (704, (0, (.bipush 104, 2, 0, 0, 104), 0, 0, 0)), (706, (0, (.bipush 115, 2, 0, 0, 115), 0, 0, 0)), (708, (0, (.iastore, 1, 0, 0, 0), 0, 0, 0)), (709, (0, (.dup, 1, 0, 0, 0), 0, 0, 0)), (710, (0, (.bipush 105, 2, 0, 0, 105), 0, 0, 0)), (712, (0, (.bipush 32, 2, 0, 0, 32), 0, 0, 0)), (714, (0, (.iastore, 1, 0, 0, 0), 0, 0, 0)), (715, (0, (.dup, 1, 0, 0, 0), 0, 0, 0)), (716, (0, (.bipush 106, 2, 0, 0, 106), 0, 0, 0)), (718, (0, (.bipush 97, 2, 0, 0, 97), 0, 0, 0)), (720, (0, (.iastore, 1, 0, 0, 0), 0, 0, 0)), (721, (0, (.dup, 1, 0, 0, 0), 0, 0, 0)), (722, (0, (.bipush 107, 2, 0, 0, 107), 0, 0, 0)), (724, (0, (.bipush 116, 2, 0, 0, 116), 0, 0, 0)), (726, (0, (.iastore, 1, 0, 0, 0), 0, 0, 0)), (727, (0, (.dup, 1, 0, 0, 0), 0, 0, 0)), (728, (0, (.bipush 108, 2, 0, 0, 108), 0, 0, 0)), (730, (0, (.bipush 32, 2, 0, 0, 32), 0, 0, 0)), (732, (0, (.iastore, 1, 0, 0, 0), 0, 0, 0)), (733, (0, (.dup, 1, 0, 0, 0), 0, 0, 0)), (734, (0, (.bipush 109, 2, 0, 0, 109), 0, 0, 0)), (736, (0, (.bipush 119, 2, 0, 0, 119), 0, 0, 0)), (738, (0, (.iastore, 1, 0, 0, 0), 0, 0, 0)), (739, (0, (.dup, 1, 0, 0, 0), 0, 0, 0)), (740, (0, (.bipush 110, 2, 0, 0, 110), 0, 0, 0)), (742, (0, (.bipush 101, 2, 0, 0, 101), 0, 0, 0)), (744, (0, (.iastore, 1, 0, 0, 0), 0, 0, 0)), (745, (0, (.dup, 1, 0, 0, 0), 0, 0, 0)), (746, (0, (.bipush 111, 2, 0, 0, 111), 0, 0, 0)), (748, (0, (.bipush 100, 2, 0, 0, 100), 0, 0, 0)), (750, (0, (.iastore, 1, 0, 0, 0), 0, 0, 0)), (751, (0, (.dup, 1, 0, 0, 0), 0, 0, 0)), (752, (0, (.bipush 112, 2, 0, 0, 112), 0, 0, 0)), (754, (0, (.bipush 100, 2, 0, 0, 100), 0, 0, 0)), (756, (0, (.iastore, 1, 0, 0, 0), 0, 0, 0)), (757, (0, (.dup, 1, 0, 0, 0), 0, 0, 0)), (758, (0, (.bipush 113, 2, 0, 0, 113), 0, 0, 0)), (760, (0, (.bipush 105, 2, 0, 0, 105), 0, 0, 0)), (762, (0, (.iastore, 1, 0, 0, 0), 0, 0, 0)), (763, (0, (.dup, 1, 0, 0, 0), 0, 0, 0)), (764, (0, (.bipush 114, 2, 0, 0, 114), 0, 0, 0)), (766, (0, (.bipush 110, 2, 0, 0, 110), 0, 0, 0)), (768, (0, (.iastore, 1, 0, 0, 0), 0, 0, 0)), (769, (0, (.dup, 1, 0, 0, 0), 0, 0, 0)), (770, (0, (.bipush 115, 2, 0, 0, 115), 0, 0, 0)), (772, (0, (.bipush 103, 2, 0, 0, 103), 0, 0, 0)), (774, (0, (.iastore, 1, 0, 0, 0), 0, 0, 0)), (775, (0, (.dup, 1, 0, 0, 0), 0, 0, 0)), (776, (0, (.bipush 116, 2, 0, 0, 116), 0, 0, 0)), (778, (0, (.bipush 32, 2, 0, 0, 32), 0, 0, 0)), (780, (0, (.iastore, 1, 0, 0, 0), 0, 0, 0)), (781, (0, (.dup, 1, 0, 0, 0), 0, 0, 0)), (782, (0, (.bipush 117, 2, 0, 0, 117), 0, 0, 0)), (784, (0, (.bipush 102, 2, 0, 0, 102), 0, 0, 0)), (786, (0, (.iastore, 1, 0, 0, 0), 0, 0, 0)), (787, (0, (.dup, 1, 0, 0, 0), 0, 0, 0)), (788, (0, (.bipush 118, 2, 0, 0, 118), 0, 0, 0)), (790, (0, (.bipush 105, 2, 0, 0, 105), 0, 0, 0)), (792, (0, (.iastore, 1, 0, 0, 0), 0, 0, 0)), (793, (0, (.dup, 1, 0, 0, 0), 0, 0, 0)), (794, (0, (.bipush 119, 2, 0, 0, 119), 0, 0, 0)), (796, (0, (.bipush 114, 2, 0, 0, 114), 0, 0, 0)), (798, (0, (.iastore, 1, 0, 0, 0), 0, 0, 0)), (799, (0, (.dup, 1, 0, 0, 0), 0, 0, 0)), (800, (0, (.bipush 120, 2, 0, 0, 120), 0, 0, 0)), (802, (0, (.bipush 101, 2, 0, 0, 101), 0, 0, 0)), (804, (0, (.iastore, 1, 0, 0, 0), 0, 0, 0)), (805, (0, (.dup, 1, 0, 0, 0), 0, 0, 0)), (806, (0, (.bipush 121, 2, 0, 0, 121), 0, 0, 0)), (808, (0, (.bipush 32, 2, 0, 0, 32), 0, 0, 0)), (810, (0, (.iastore, 1, 0, 0, 0), 0, 0, 0)), (811, (0, (.dup, 1, 0, 0, 0), 0, 0, 0)), (812, (0, (.bipush 122, 2, 0, 0, 122), 0, 0, 0)), (814, (0, (.bipush 109, 2, 0, 0, 109), 0, 0, 0)), (816, (0, (.iastore, 1, 0, 0, 0), 0, 0, 0)), (817, (0, (.dup, 1, 0, 0, 0), 0, 0, 0)), (818, (0, (.bipush 123, 2, 0, 0, 123), 0, 0, 0)), (820, (0, (.bipush 97, 2, 0, 0, 97), 0, 0, 0)), (822, (0, (.iastore, 1, 0, 0, 0), 0, 0, 0)), (823, (0, (.dup, 1, 0, 0, 0), 0, 0, 0)), (824, (0, (.bipush 124, 2, 0, 0, 124), 0, 0, 0)), (826, (0, (.bipush 114, 2, 0, 0, 114), 0, 0, 0)), (828, (0, (.iastore, 1, 0, 0, 0), 0, 0, 0)), (829, (0, (.dup, 1, 0, 0, 0), 0, 0, 0)), (830, (0, (.bipush 125, 2, 0, 0, 125), 0, 0, 0)), (832, (0, (.bipush 107, 2, 0, 0, 107), 0, 0, 0)), (834, (0, (.iastore, 1, 0, 0, 0), 0, 0, 0)), (835, (0, (.dup, 1, 0, 0, 0), 0, 0, 0)), (836, (0, (.bipush 126, 2, 0, 0, 126), 0, 0, 0)), (838, (0, (.bipush 101, 2, 0, 0, 101), 0, 0, 0)), (840, (0, (.iastore, 1, 0, 0, 0), 0, 0, 0)), (841, (0, (.dup, 1, 0, 0, 0), 0, 0, 0)), (842, (0, (.bipush 127, 2, 0, 0, 127), 0, 0, 0)), (844, (0, (.bipush 116, 2, 0, 0, 116), 0, 0, 0)), (846, (0, (.iastore, 1, 0, 0, 0), 0, 0, 0)), (847, (0, (.dup, 1, 0, 0, 0), 0, 0, 0)), (848, (0, (.sipush 128, 3, 0, 0, 128), 0, 0, 0)), (851, (0, (.bipush 32, 2, 0, 0, 32), 0, 0, 0)), (853, (0, (.iastore, 1, 0, 0, 0), 0, 0, 0)), (854, (0, (.dup, 1, 0, 0, 0), 0, 0, 0)), (855, (0, (.sipush 129, 3, 0, 0, 129), 0, 0, 0)), (858, (0, (.bipush 100, 2, 0, 0, 100), 0, 0, 0)), (860, (0, (.iastore, 1, 0, 0, 0), 0, 0, 0)), (861, (0, (.dup, 1, 0, 0, 0), 0, 0, 0)), (862, (0, (.sipush 130, 3, 0, 0, 130), 0, 0, 0)), (865, (0, (.bipush 101, 2, 0, 0, 101), 0, 0, 0)), (867, (0, (.iastore, 1, 0, 0, 0), 0, 0, 0)), (868, (0, (.dup, 1, 0, 0, 0), 0, 0, 0)), (869, (0, (.sipush 131, 3, 0, 0, 131), 0, 0, 0)), (872, (0, (.bipush 97, 2, 0, 0, 97), 0, 0, 0)), (874, (0, (.iastore, 1, 0, 0, 0), 0, 0, 0)), (875, (0, (.dup, 1, 0, 0, 0), 0, 0, 0)), (876, (0, (.sipush 132, 3, 0, 0, 132), 0, 0, 0)), (879, (0, (.bipush 116, 2, 0, 0, 116), 0, 0, 0)), (881, (0, (.iastore, 1, 0, 0, 0), 0, 0, 0)), (882, (0, (.dup, 1, 0, 0, 0), 0, 0, 0)), (883, (0, (.sipush 133, 3, 0, 0, 133), 0, 0, 0)), (886, (0, (.bipush 104, 2, 0, 0, 104), 0, 0, 0)), (888, (0, (.iastore, 1, 0, 0, 0), 0, 0, 0)), (889, (0, (.dup, 1, 0, 0, 0), 0, 0, 0)), (890, (0, (.sipush 134, 3, 0, 0, 134), 0, 0, 0)), (893, (0, (.bipush 32, 2, 0, 0, 32), 0, 0, 0)), (895, (0, (.iastore, 1, 0, 0, 0), 0, 0, 0)), (896, (0, (.dup, 1, 0, 0, 0), 0, 0, 0)), (897, (0, (.sipush 135, 3, 0, 0, 135), 0, 0, 0)), (900, (0, (.bipush 99, 2, 0, 0, 99), 0, 0, 0)), (902, (0, (.iastore, 1, 0, 0, 0), 0, 0, 0)), (903, (0, (.dup, 1, 0, 0, 0), 0, 0, 0)), (904, (0, (.sipush 136, 3, 0, 0, 136), 0, 0, 0)), (907, (0, (.bipush 104, 2, 0, 0, 104), 0, 0, 0)), (909, (0, (.iastore, 1, 0, 0, 0), 0, 0, 0)), (910, (0, (.dup, 1, 0, 0, 0), 0, 0, 0)), (911, (0, (.sipush 137, 3, 0, 0, 137), 0, 0, 0)), (914, (0, (.bipush 114, 2, 0, 0, 114), 0, 0, 0)), (916, (0, (.iastore, 1, 0, 0, 0), 0, 0, 0)), (917, (0, (.dup, 1, 0, 0, 0), 0, 0, 0)), (918, (0, (.sipush 138, 3, 0, 0, 138), 0, 0, 0)), (921, (0, (.bipush 105, 2, 0, 0, 105), 0, 0, 0)), (923, (0, (.iastore, 1, 0, 0, 0), 0, 0, 0)), (924, (0, (.dup, 1, 0, 0, 0), 0, 0, 0)), (925, (0, (.sipush 139, 3, 0, 0, 139), 0, 0, 0)), (928, (0, (.bipush 115, 2, 0, 0, 115), 0, 0, 0)), (930, (0, (.iastore, 1, 0, 0, 0), 0, 0, 0)), (931, (0, (.dup, 1, 0, 0, 0), 0, 0, 0)), (932, (0, (.sipush 140, 3, 0, 0, 140), 0, 0, 0)), (935, (0, (.bipush 116, 2, 0, 0, 116), 0, 0, 0)), (937, (0, (.iastore, 1, 0, 0, 0), 0, 0, 0)), (938, (0, (.dup, 1, 0, 0, 0), 0, 0, 0)), (939, (0, (.sipush 141, 3, 0, 0, 141), 0, 0, 0)), (942, (0, (.bipush 101, 2, 0, 0, 101), 0, 0, 0)), (944, (0, (.iastore, 1, 0, 0, 0), 0, 0, 0)), (945, (0, (.dup, 1, 0, 0, 0), 0, 0, 0)), (946, (0, (.sipush 142, 3, 0, 0, 142), 0, 0, 0)), (949, (0, (.bipush 110, 2, 0, 0, 110), 0, 0, 0)), (951, (0, (.iastore, 1, 0, 0, 0), 0, 0, 0)), (952, (0, (.dup, 1, 0, 0, 0), 0, 0, 0)), (953, (0, (.sipush 143, 3, 0, 0, 143), 0, 0, 0)), (956, (0, (.bipush 105, 2, 0, 0, 105), 0, 0, 0)), (958, (0, (.iastore, 1, 0, 0, 0), 0, 0, 0)), (959, (0, (.dup, 1, 0, 0, 0), 0, 0, 0)), (960, (0, (.sipush 144, 3, 0, 0, 144), 0, 0, 0)), (963, (0, (.bipush 110, 2, 0, 0, 110), 0, 0, 0)), (965, (0, (.iastore, 1, 0, 0, 0), 0, 0, 0)), (966, (0, (.dup, 1, 0, 0, 0), 0, 0, 0)), (967, (0, (.sipush 145, 3, 0, 0, 145), 0, 0, 0)), (970, (0, (.bipush 103, 2, 0, 0, 103), 0, 0, 0)), (972, (0, (.iastore, 1, 0, 0, 0), 0, 0, 0)), (973, (0, (.dup, 1, 0, 0, 0), 0, 0, 0)), (974, (0, (.sipush 146, 3, 0, 0, 146), 0, 0, 0)), (977, (0, (.bipush 32, 2, 0, 0, 32), 0, 0, 0)), (979, (0, (.iastore, 1, 0, 0, 0), 0, 0, 0)), (980, (0, (.dup, 1, 0, 0, 0), 0, 0, 0)), (981, (0, (.sipush 147, 3, 0, 0, 147), 0, 0, 0)), (984, (0, (.bipush 115, 2, 0, 0, 115), 0, 0, 0)), (986, (0, (.iastore, 1, 0, 0, 0), 0, 0, 0)), (987, (0, (.dup, 1, 0, 0, 0), 0, 0, 0)), (988, (0, (.sipush 148, 3, 0, 0, 148), 0, 0, 0)), (991, (0, (.bipush 119, 2, 0, 0, 119), 0, 0, 0)), (993, (0, (.iastore, 1, 0, 0, 0), 0, 0, 0)), (994, (0, (.dup, 1, 0, 0, 0), 0, 0, 0)), (995, (0, (.sipush 149, 3, 0, 0, 149), 0, 0, 0)), (998, (0, (.bipush 97, 2, 0, 0, 97), 0, 0, 0)), (1000, (0, (.iastore, 1, 0, 0, 0), 0, 0, 0)), (1001, (0, (.dup, 1, 0, 0, 0), 0, 0, 0)), (1002, (0, (.sipush 150, 3, 0, 0, 150), 0, 0, 0)), (1005, (0, (.bipush 112, 2, 0, 0, 112), 0, 0, 0)), (1007, (0, (.iastore, 1, 0, 0, 0), 0, 0, 0)), (1008, (0, (.dup, 1, 0, 0, 0), 0, 0, 0)), (1009, (0, (.sipush 151, 3, 0, 0, 151), 0, 0, 0)), (1012, (0, (.bipush 32, 2, 0, 0, 32), 0, 0, 0)), (1014, (0, (.iastore, 1, 0, 0, 0), 0, 0, 0)), (1015, (9, (.putfield 37, 3, 0, 0, 0), 12, 18, 0)), (1018, (0, (.aload_n 0, 1, 0, 0, 0), 0, 0, 0)), (1019, (0, (.iconst 2, 1, 0, 0, 2), 0, 0, 0)), (1020, (7, (.newarray .int, 2, 0, 0, 0), 0, 0, 0)), (1022, (9, (.putfield 40, 3, 0, 0, 0), 12, 19, 0)), (1025, (0, (.aload_n 0, 1, 0, 0, 0), 0, 0, 0)), (1026, (0, (.bipush 48, 2, 0, 0, 48), 0, 0, 0)), (1028, (7, (.newarray .int, 2, 0, 0, 0), 0, 0, 0)), (1030, (9, (.putfield 43, 3, 0, 0, 0), 12, 20, 0)), (1033, (0, (.aload_n 0, 1, 0, 0, 0), 0, 0, 0)), (1034, (0, (.bipush 48, 2, 0, 0, 48), 0, 0, 0)), (1036, (7, (.newarray .int, 2, 0, 0, 0), 0, 0, 0)), (1038, (9, (.putfield 46, 3, 0, 0, 0), 12, 21, 0)), (1041, (0, (.aload_n 0, 1, 0, 0, 0), 0, 0, 0)), (1042, (0, (.bipush 48, 2, 0, 0, 48), 0, 0, 0)), (1044, (7, (.newarray .int, 2, 0, 0, 0), 0, 0, 0)), (1046, (9, (.putfield 49, 3, 0, 0, 0), 12, 22, 0)), (1049, (0, (.aload_n 0, 1, 0, 0, 0), 0, 0, 0)), (1050, (0, (.bipush 48, 2, 0, 0, 48), 0, 0, 0)), (1052, (7, (.newarray .int, 2, 0, 0, 0), 0, 0, 0)), (1054, (9, (.putfield 52, 3, 0, 0, 0), 12, 23, 0)), (1057, (0, (.aload_n 0, 1, 0, 0, 0), 0, 0, 0)), (1058, (0, (.sipush 1200, 3, 0, 0, 1200), 0, 0, 0)), (1061, (7, (.newarray .int, 2, 0, 0, 0), 0, 0, 0)), (1063, (9, (.putfield 55, 3, 0, 0, 0), 12, 24, 0)), (1066, (0, (.aload_n 0, 1, 0, 0, 0), 0, 0, 0)), (1067, (0, (.sipush 1200, 3, 0, 0, 1200), 0, 0, 0)), (1070, (7, (.newarray .int, 2, 0, 0, 0), 0, 0, 0)), (1072, (9, (.putfield 58, 3, 0, 0, 0), 12, 25, 0)), (1075, (0, (.aload_n 0, 1, 0, 0, 0), 0, 0, 0)), (1076, (0, (.bipush 40, 2, 0, 0, 40), 0, 0, 0)), (1078, (7, (.newarray .int, 2, 0, 0, 0), 0, 0, 0)), (1080, (9, (.putfield 61, 3, 0, 0, 0), 12, 29, 0)), (1083, (0, (.aload_n 0, 1, 0, 0, 0), 0, 0, 0)), (1084, (0, (.iconst (-1), 1, 0, 0, (-1)), 0, 0, 0)), (1085, (0, (.putfield 64, 3, 12, 34, 0), 0, 0, 0)), (1088, (0, (.aload_n 0, 1, 0, 0, 0), 0, 0, 0)), (1089, (0, (.bipush 20, 2, 0, 0, 20), 0, 0, 0)), (1091, (7, (.newarray .int, 2, 0, 0, 0), 0, 0, 0)), (1093, (9, (.putfield 68, 3, 0, 0, 0), 12, 36, 0)), (1096, (0, (.aload_n 0, 1, 0, 0, 0), 0, 0, 0)), (1097, (0, (.bipush 96, 2, 0, 0, 96), 0, 0, 0)), (1099, (7, (.newarray .int, 2, 0, 0, 0), 0, 0, 0)), (1101, (9, (.putfield 71, 3, 0, 0, 0), 12, 38, 0)), (1104, (0, (.aload_n 0, 1, 0, 0, 0), 0, 0, 0)), (1105, (0, (.bipush 32, 2, 0, 0, 32), 0, 0, 0)), (1107, (7, (.newarray .int, 2, 0, 0, 0), 0, 0, 0)), (1109, (9, (.putfield 74, 3, 0, 0, 0), 12, 40, 0)), (1112, (0, (.aload_n 0, 1, 0, 0, 0), 0, 0, 0)), (1113, (0, (.bipush 11, 2, 0, 0, 11), 0, 0, 0)), (1115, (7, (.newarray .int, 2, 0, 0, 0), 0, 0, 0)), (1117, (9, (.putfield 77, 3, 0, 0, 0), 12, 41, 0)), (1120, (0, (.aload_n 0, 1, 0, 0, 0), 0, 0, 0)), (1121, (0, (.sipush 420, 3, 0, 0, 420), 0, 0, 0)), (1124, (7, (.newarray .int, 2, 0, 0, 0), 0, 0, 0)), (1126, (9, (.putfield 80, 3, 0, 0, 0), 12, 42, 0)), (1129, (0, (.aload_n 0, 1, 0, 0, 0), 0, 0, 0)), (1130, (0, (.sipush 8000, 3, 0, 0, 8000), 0, 0, 0)), (1133, (7, (.newarray .int, 2, 0, 0, 0), 0, 0, 0)), (1135, (9, (.putfield 83, 3, 0, 0, 0), 12, 44, 0)), (1138, (0, (.aload_n 0, 1, 0, 0, 0), 0, 0, 0)), (1139, (0, (.bipush 10, 2, 0, 0, 10), 0, 0, 0)), (1141, (7, (.newarray .int, 2, 0, 0, 0), 0, 0, 0)), (1143, (9, (.putfield 86, 3, 0, 0, 0), 12, 46, 0)), (1146, (0, (.aload_n 0, 1, 0, 0, 0), 0, 0, 0)), (1147, (0, (.bipush 10, 2, 0, 0, 10), 0, 0, 0)), (1149, (7, (.newarray .int, 2, 0, 0, 0), 0, 0, 0)), (1151, (9, (.putfield 89, 3, 0, 0, 0), 12, 47, 0)), (1154, (0, (.aload_n 0, 1, 0, 0, 0), 0, 0, 0)), (1155, (0, (.bipush 6, 2, 0, 0, 6), 0, 0, 0)), (1157, (7, (.newarray .int, 2, 0, 0, 0), 0, 0, 0)), (1159, (9, (.putfield 92, 3, 0, 0, 0), 12, 49, 0)), (1162, (0, (.aload_n 0, 1, 0, 0, 0), 0, 0, 0)), (1163, (0, (.bipush 6, 2, 0, 0, 6), 0, 0, 0)), (1165, (7, (.newarray .int, 2, 0, 0, 0), 0, 0, 0)), (1167, (9, (.putfield 95, 3, 0, 0, 0), 12, 50, 0)), (1170, (0, (.aload_n 0, 1, 0, 0, 0), 0, 0, 0)), (1171, (0, (.bipush 80, 2, 0, 0, 80), 0, 0, 0)), (1173, (7, (.newarray .int, 2, 0, 0, 0), 0, 0, 0)), (1175, (9, (.putfield 98, 3, 0, 0, 0), 12, 51, 0)), (1178, (0, (.aload_n 0, 1, 0, 0, 0), 0, 0, 0)), (1179, (0, (.sipush 256, 3, 0, 0, 256), 0, 0, 0)), (1182, (7, (.newarray .int, 2, 0, 0, 0), 0, 0, 0)), (1184, (9, (.putfield 101, 3, 0, 0, 0), 12, 52, 0)), (1187, (0, (.aload_n 0, 1, 0, 0, 0), 0, 0, 0)), (1188, (0, (.bipush 12, 2, 0, 0, 12), 0, 0, 0)), (1190, (7, (.newarray .int, 2, 0, 0, 0), 0, 0, 0)), (1192, (9, (.putfield 104, 3, 0, 0, 0), 12, 54, 0)), (1195, (0, (.aload_n 0, 1, 0, 0, 0), 0, 0, 0)), (1196, (0, (.bipush 12, 2, 0, 0, 12), 0, 0, 0)), (1198, (7, (.newarray .int, 2, 0, 0, 0), 0, 0, 0)), (1200, (9, (.putfield 107, 3, 0, 0, 0), 12, 55, 0)), (1203, (0, (.aload_n 0, 1, 0, 0, 0), 0, 0, 0)), (1204, (0, (.bipush 12, 2, 0, 0, 12), 0, 0, 0)), (1206, (7, (.newarray .int, 2, 0, 0, 0), 0, 0, 0)), (1208, (9, (.putfield 110, 3, 0, 0, 0), 12, 56, 0)), (1211, (0, (.aload_n 0, 1, 0, 0, 0), 0, 0, 0)), (1212, (0, (.bipush 24, 2, 0, 0, 24), 0, 0, 0)), (1214, (7, (.newarray .int, 2, 0, 0, 0), 0, 0, 0)), (1216, (9, (.putfield 113, 3, 0, 0, 0), 12, 58, 0)), (1219, (0, (.aload_n 0, 1, 0, 0, 0), 0, 0, 0)), (1220, (0, (.bipush 10, 2, 0, 0, 10), 0, 0, 0)), (1222, (7, (.newarray .int, 2, 0, 0, 0), 0, 0, 0)), (1224, (9, (.putfield 116, 3, 0, 0, 0), 12, 60, 0)), (1227, (0, (.aload_n 0, 1, 0, 0, 0), 0, 0, 0)), (1228, (0, (.bipush 10, 2, 0, 0, 10), 0, 0, 0)), (1230, (7, (.newarray .int, 2, 0, 0, 0), 0, 0, 0)), (1232, (9, (.putfield 119, 3, 0, 0, 0), 12, 61, 0)), (1235, (0, (.aload_n 0, 1, 0, 0, 0), 0, 0, 0)), (1236, (0, (.bipush 100, 2, 0, 0, 100), 0, 0, 0)), (1238, (7, (.newarray .int, 2, 0, 0, 0), 0, 0, 0)), (1240, (9, (.putfield 122, 3, 0, 0, 0), 12, 62, 0)), (1243, (0, (.aload_n 0, 1, 0, 0, 0), 0, 0, 0)), (1244, (0, (.sipush 2100, 3, 0, 0, 2100), 0, 0, 0)), (1247, (7, (.newarray .int, 2, 0, 0, 0), 0, 0, 0)), (1249, (9, (.putfield 125, 3, 0, 0, 0), 12, 66, 0)), (1252, (4, (.return_, 1, 0, 0, 0), 0, 0, 0))]
def cfX12_init : ev_Cf := fun k vs S D => match k with
  | _ => none
def gX12_init (vs : List Value) (S : ev_S) (D : ev_D) : Option ev_Rs := bif vs.all ev_plain && decide (vs.length ≤ 1) then ev_run tbX12_init cfX12_init 4000 0 (vs.map some ++ List.replicate (1 - vs.length) none) [] (ev_z S) D else none
def tnX12_init : List (Nat × ev_Jn) := [(1, (12, (.invokespecial 1, 3, 0, 0, 0), 0, 0, 0)), (7, (7, (.newarray .int, 2, 0, 0, 0), 0, 0, 0)), (9, (9, (.putfield 7, 3, 0, 0, 0), 12, 1, 0)), (16, (7, (.newarray .int, 2, 0, 0, 0), 0, 0, 0)), (18, (9, (.putfield 13, 3, 0, 0, 0), 12, 2, 0)), (24, (7, (.newarray .int, 2, 0, 0, 0), 0, 0, 0)), (26, (9, (.putfield 16, 3, 0, 0, 0), 12, 4, 0)), (32, (7, (.newarray .int, 2, 0, 0, 0), 0, 0, 0)), (34, (9, (.putfield 19, 3, 0, 0, 0), 12, 6, 0)), (40, (7, (.newarray .int, 2, 0, 0, 0), 0, 0, 0)), (42, (9, (.putfield 22, 3, 0, 0, 0), 12, 8, 0)), (48, (7, (.newarray .int, 2, 0, 0, 0), 0, 0, 0)), (50, (9, (.putfield 25, 3, 0, 0, 0), 12, 9, 0)), (56, (7, (.newarray .int, 2, 0, 0, 0), 0, 0, 0)), (58, (9, (.putfield 28, 3, 0, 0, 0), 12, 10, 0)), (65, (7, (.newarray .int, 2, 0, 0, 0), 0, 0, 0)), (67, (9, (.putfield 31, 3, 0, 0, 0), 12, 11, 0)), (74, (7, (.newarray .int, 2, 0, 0, 0), 0, 0, 0)), (76, (9, (.putfield 34, 3, 0, 0, 0), 12, 12, 0)), (83, (7, (.newarray .int, 2, 0, 0, 0), 0, 0, 0)), (1015, (9, (.putfield 37, 3, 0, 0, 0), 12, 18, 0)), (1020, (7, (.newarray .int, 2, 0, 0, 0), 0, 0, 0)), (1022, (9, (.putfield 40, 3, 0, 0, 0), 12, 19, 0)), (1028, (7, (.newarray .int, 2, 0, 0, 0), 0, 0, 0)), (1030, (9, (.putfield 43, 3, 0, 0, 0), 12, 20, 0)), (1036, (7, (.newarray .int, 2, 0, 0, 0), 0, 0, 0)), (1038, (9, (.putfield 46, 3, 0, 0, 0), 12, 21, 0)), (1044, (7, (.newarray .int, 2, 0, 0, 0), 0, 0, 0)), (1046, (9, (.putfield 49, 3, 0, 0, 0), 12, 22, 0)), (1052, (7, (.newarray .int, 2, 0, 0, 0), 0, 0, 0)), (1054, (9, (.putfield 52, 3, 0, 0, 0), 12, 23, 0)), (1061, (7, (.newarray .int, 2, 0, 0, 0), 0, 0, 0)), (1063, (9, (.putfield 55, 3, 0, 0, 0), 12, 24, 0)), (1070, (7, (.newarray .int, 2, 0, 0, 0), 0, 0, 0)), (1072, (9, (.putfield 58, 3, 0, 0, 0), 12, 25, 0)), (1078, (7, (.newarray .int, 2, 0, 0, 0), 0, 0, 0)), (1080, (9, (.putfield 61, 3, 0, 0, 0), 12, 29, 0)), (1091, (7, (.newarray .int, 2, 0, 0, 0), 0, 0, 0)), (1093, (9, (.putfield 68, 3, 0, 0, 0), 12, 36, 0)), (1099, (7, (.newarray .int, 2, 0, 0, 0), 0, 0, 0)), (1101, (9, (.putfield 71, 3, 0, 0, 0), 12, 38, 0)), (1107, (7, (.newarray .int, 2, 0, 0, 0), 0, 0, 0)), (1109, (9, (.putfield 74, 3, 0, 0, 0), 12, 40, 0)), (1115, (7, (.newarray .int, 2, 0, 0, 0), 0, 0, 0)), (1117, (9, (.putfield 77, 3, 0, 0, 0), 12, 41, 0)), (1124, (7, (.newarray .int, 2, 0, 0, 0), 0, 0, 0)), (1126, (9, (.putfield 80, 3, 0, 0, 0), 12, 42, 0)), (1133, (7, (.newarray .int, 2, 0, 0, 0), 0, 0, 0)), (1135, (9, (.putfield 83, 3, 0, 0, 0), 12, 44, 0)), (1141, (7, (.newarray .int, 2, 0, 0, 0), 0, 0, 0)), (1143, (9, (.putfield 86, 3, 0, 0, 0), 12, 46, 0)), (1149, (7, (.newarray .int, 2, 0, 0, 0), 0, 0, 0)), (1151, (9, (.putfield 89, 3, 0, 0, 0), 12, 47, 0)), (1157, (7, (.newarray .int, 2, 0, 0, 0), 0, 0, 0)), (1159, (9, (.putfield 92, 3, 0, 0, 0), 12, 49, 0)), (1165, (7, (.newarray .int, 2, 0, 0, 0), 0, 0, 0)), (1167, (9, (.putfield 95, 3, 0, 0, 0), 12, 50, 0)), (1173, (7, (.newarray .int, 2, 0, 0, 0), 0, 0, 0)), (1175, (9, (.putfield 98, 3, 0, 0, 0), 12, 51, 0)), (1182, (7, (.newarray .int, 2, 0, 0, 0), 0, 0, 0)), (1184, (9, (.putfield 101, 3, 0, 0, 0), 12, 52, 0)), (1190, (7, (.newarray .int, 2, 0, 0, 0), 0, 0, 0)), (1192, (9, (.putfield 104, 3, 0, 0, 0), 12, 54, 0)), (1198, (7, (.newarray .int, 2, 0, 0, 0), 0, 0, 0)), (1200, (9, (.putfield 107, 3, 0, 0, 0), 12, 55, 0)), (1206, (7, (.newarray .int, 2, 0, 0, 0), 0, 0, 0)), (1208, (9, (.putfield 110, 3, 0, 0, 0), 12, 56, 0)), (1214, (7, (.newarray .int, 2, 0, 0, 0), 0, 0, 0)), (1216, (9, (.putfield 113, 3, 0, 0, 0), 12, 58, 0)), (1222, (7, (.newarray .int, 2, 0, 0, 0), 0, 0, 0)), (1224, (9, (.putfield 116, 3, 0, 0, 0), 12, 60, 0)), (1230, (7, (.newarray .int, 2, 0, 0, 0), 0, 0, 0)), (1232, (9, (.putfield 119, 3, 0, 0, 0), 12, 61, 0)), (1238, (7, (.newarray .int, 2, 0, 0, 0), 0, 0, 0)), (1240, (9, (.putfield 122, 3, 0, 0, 0), 12, 62, 0)), (1247, (7, (.newarray .int, 2, 0, 0, 0), 0, 0, 0)), (1249, (9, (.putfield 125, 3, 0, 0, 0), 12, 66, 0)), (1252, (4, (.return_, 1, 0, 0, 0), 0, 0, 0))]
set_option maxRecDepth 100000 in
theorem jX12_init_1 : ev_jok cfX12_init RX12 cX12_init 1 1 true 1 (12, (.invokespecial 1, 3, 0, 0, 0), 0, 0, 0) := ⟨1, (mt_6 (List.mem_of_getElem? (i := 34) rfl)), ac_oi, ac_oc, by decide, by decide +kernel⟩
set_option maxRecDepth 100000 in
theorem jX12_init_7 : ev_jok cfX12_init RX12 cX12_init 1 1 true 7 (7, (.newarray .int, 2, 0, 0, 0), 0, 0, 0) := ⟨ac_int, by decide +kernel⟩
set_option maxRecDepth 100000 in
theorem jX12_init_9 : ev_jok cfX12_init RX12 cX12_init 1 1 true 9 (9, (.putfield 7, 3, 0, 0, 0), 12, 1, 0) := ⟨7, (RX12, TX12, 67), rfl, by decide, (mt_6 (List.mem_of_getElem? (i := 36) rfl)), Or.inr ⟨rfl, rfl, rfl⟩, by decide +kernel⟩
set_option maxRecDepth 100000 in
theorem jX12_init_16 : ev_jok cfX12_init RX12 cX12_init 1 1 true 16 (7, (.newarray .int, 2, 0, 0, 0), 0, 0, 0) := ⟨ac_int, by decide +kernel⟩
set_option maxRecDepth 100000 in
theorem jX12_init_18 : ev_jok cfX12_init RX12 cX12_init 1 1 true 18 (9, (.putfield 13, 3, 0, 0, 0), 12, 2, 0) := ⟨13, (RX12, TX12, 67), rfl, by decide, (mt_6 (List.mem_of_getElem? (i := 37) rfl)), Or.inr ⟨rfl, rfl, rfl⟩, by decide +kernel⟩
set_option maxRecDepth 100000 in
theorem jX12_init_24 : ev_jok cfX12_init RX12 cX12_init 1 1 true 24 (7, (.newarray .int, 2, 0, 0, 0), 0, 0, 0) := ⟨ac_int, by decide +kernel⟩
set_option maxRecDepth 100000 in
theorem jX12_init_26 : ev_jok cfX12_init RX12 cX12_init 1 1 true 26 (9, (.putfield 16, 3, 0, 0, 0), 12, 4, 0) := ⟨16, (RX12, TX12, 67), rfl, by decide, (mt_6 (List.mem_of_getElem? (i := 39) rfl)), Or.inr ⟨rfl, rfl, rfl⟩, by decide +kernel⟩
set_option maxRecDepth 100000 in
theorem jX12_init_32 : ev_jok cfX12_init RX12 cX12_init 1 1 true 32 (7, (.newarray .int, 2, 0, 0, 0), 0, 0, 0) := ⟨ac_int, by decide +kernel⟩
set_option maxRecDepth 100000 in
theorem jX12_init_34 : ev_jok cfX12_init RX12 cX12_init 1 1 true 34 (9, (.putfield 19, 3, 0, 0, 0), 12, 6, 0) := ⟨19, (RX12, TX12, 67), rfl, by decide, (mt_6 (List.mem_of_getElem? (i := 41) rfl)), Or.inr ⟨rfl, rfl, rfl⟩, by decide +kernel⟩
set_option maxRecDepth 100000 in
theorem jX12_init_40 : ev_jok cfX12_init RX12 cX12_init 1 1 true 40 (7, (.newarray .int, 2, 0, 0, 0), 0, 0, 0) := ⟨ac_int, by decide +kernel⟩
set_option maxRecDepth 100000 in
theorem jX12_init_42 : ev_jok cfX12_init RX12 cX12_init 1 1 true 42 (9, (.putfield 22, 3, 0, 0, 0), 12, 8, 0) := ⟨22, (RX12, TX12, 67), rfl, by decide, (mt_6 (List.mem_of_getElem? (i := 43) rfl)), Or.inr ⟨rfl, rfl, rfl⟩, by decide +kernel⟩
set_option maxRecDepth 100000 in
theorem jX12_init_48 : ev_jok cfX12_init RX12 cX12_init 1 1 true 48 (7, (.newarray .int, 2, 0, 0, 0), 0, 0, 0) := ⟨ac_int, by decide +kernel⟩
set_option maxRecDepth 100000 in
theorem jX12_init_50 : ev_jok cfX12_init RX12 cX12_init 1 1 true 50 (9, (.putfield 25, 3, 0, 0, 0), 12, 9, 0) := ⟨25, (RX12, TX12, 67), rfl, by decide, (mt_6 (List.mem_of_getElem? (i := 44) rfl)), Or.inr ⟨rfl, rfl, rfl⟩, by decide +kernel⟩
set_option maxRecDepth 100000 in
theorem jX12_init_56 : ev_jok cfX12_init RX12 cX12_init 1 1 true 56 (7, (.newarray .int, 2, 0, 0, 0), 0, 0, 0) := ⟨ac_int, by decide +kernel⟩
set_option maxRecDepth 100000 in
theorem jX12_init_58 : ev_jok cfX12_init RX12 cX12_init 1 1 true 58 (9, (.putfield 28, 3, 0, 0, 0), 12, 10, 0) := ⟨28, (RX12, TX12, 67), rfl, by decide, (mt_6 (List.mem_of_getElem? (i := 45) rfl)), Or.inr ⟨rfl, rfl, rfl⟩, by decide +kernel⟩
set_option maxRecDepth 100000 in
theorem jX12_init_65 : ev_jok cfX12_init RX12 cX12_init 1 1 true 65 (7, (.newarray .int, 2, 0, 0, 0), 0, 0, 0) := ⟨ac_int, by decide +kernel⟩
set_option maxRecDepth 100000 in
theorem jX12_init_67 : ev_jok cfX12_init RX12 cX12_init 1 1 true 67 (9, (.putfield 31, 3, 0, 0, 0), 12, 11, 0) := ⟨31, (RX12, TX12, 67), rfl, by decide, (mt_6 (List.mem_of_getElem? (i := 46) rfl)), Or.inr ⟨rfl, rfl, rfl⟩, by decide +kernel⟩
set_option maxRecDepth 100000 in
theorem jX12_init_74 : ev_jok cfX12_init RX12 cX12_init 1 1 true 74 (7, (.newarray .int, 2, 0, 0, 0), 0, 0, 0) := ⟨ac_int, by decide +kernel⟩
set_option maxRecDepth 100000 in
theorem jX12_init_76 : ev_jok cfX12_init RX12 cX12_init 1 1 true 76 (9, (.putfield 34, 3, 0, 0, 0), 12, 12, 0) := ⟨34, (RX12, TX12, 67), rfl, by decide, (mt_6 (List.mem_of_getElem? (i := 47) rfl)), Or.inr ⟨rfl, rfl, rfl⟩, by decide +kernel⟩
set_option maxRecDepth 100000 in
theorem jX12_init_83 : ev_jok cfX12_init RX12 cX12_init 1 1 true 83 (7, (.newarray .int, 2, 0, 0, 0), 0, 0, 0) := ⟨ac_int, by decide +kernel⟩
set_option maxRecDepth 100000 in
theorem jX12_init_1015 : ev_jok cfX12_init RX12 cX12_init 1 1 true 1015 (9, (.putfield 37, 3, 0, 0, 0), 12, 18, 0) := ⟨37, (RX12, TX12, 67), rfl, by decide, (mt_6 (List.mem_of_getElem? (i := 53) rfl)), Or.inr ⟨rfl, rfl, rfl⟩, by decide +kernel⟩
set_option maxRecDepth 100000 in
theorem jX12_init_1020 : ev_jok cfX12_init RX12 cX12_init 1 1 true 1020 (7, (.newarray .int, 2, 0, 0, 0), 0, 0, 0) := ⟨ac_int, by decide +kernel⟩
set_option maxRecDepth 100000 in
theorem jX12_init_1022 : ev_jok cfX12_init RX12 cX12_init 1 1 true 1022 (9, (.putfield 40, 3, 0, 0, 0), 12, 19, 0) := ⟨40, (RX12, TX12, 67), rfl, by decide, (mt_6 (List.mem_of_getElem? (i := 54) rfl)), Or.inr ⟨rfl, rfl, rfl⟩, by decide +kernel⟩
set_option maxRecDepth 100000 in
theorem jX12_init_1028 : ev_jok cfX12_init RX12 cX12_init 1 1 true 1028 (7, (.newarray .int, 2, 0, 0, 0), 0, 0, 0) := ⟨ac_int, by decide +kernel⟩
set_option maxRecDepth 100000 in
theorem jX12_init_1030 : ev_jok cfX12_init RX12 cX12_init 1 1 true 1030 (9, (.putfield 43, 3, 0, 0, 0), 12, 20, 0) := ⟨43, (RX12, TX12, 67), rfl, by decide, (mt_6 (List.mem_of_getElem? (i := 55) rfl)), Or.inr ⟨rfl, rfl, rfl⟩, by decide +kernel⟩
set_option maxRecDepth 100000 in
theorem jX12_init_1036 : ev_jok cfX12_init RX12 cX12_init 1 1 true 1036 (7, (.newarray .int, 2, 0, 0, 0), 0, 0, 0) := ⟨ac_int, by decide +kernel⟩
set_option maxRecDepth 100000 in
theorem jX12_init_1038 : ev_jok cfX12_init RX12 cX12_init 1 1 true 1038 (9, (.putfield 46, 3, 0, 0, 0), 12, 21, 0) := ⟨46, (RX12, TX12, 67), rfl, by decide, (mt_6 (List.mem_of_getElem? (i := 56) rfl)), Or.inr ⟨rfl, rfl, rfl⟩, by decide +kernel⟩
set_option maxRecDepth 100000 in
theorem jX12_init_1044 : ev_jok cfX12_init RX12 cX12_init 1 1 true 1044 (7, (.newarray .int, 2, 0, 0, 0), 0, 0, 0) := ⟨ac_int, by decide +kernel⟩
set_option maxRecDepth 100000 in
theorem jX12_init_1046 : ev_jok cfX12_init RX12 cX12_init 1 1 true 1046 (9, (.putfield 49, 3, 0, 0, 0), 12, 22, 0) := ⟨49, (RX12, TX12, 67), rfl, by decide, (mt_6 (List.mem_of_getElem? (i := 57) rfl)), Or.inr ⟨rfl, rfl, rfl⟩, by decide +kernel⟩
set_option maxRecDepth 100000 in
theorem jX12_init_1052 : ev_jok cfX12_init RX12 cX12_init 1 1 true 1052 (7, (.newarray .int, 2, 0, 0, 0), 0, 0, 0) := ⟨ac_int, by decide +kernel⟩
set_option maxRecDepth 100000 in
theorem jX12_init_1054 : ev_jok cfX12_init RX12 cX12_init 1 1 true 1054 (9, (.putfield 52, 3, 0, 0, 0), 12, 23, 0) := ⟨52, (RX12, TX12, 67), rfl, by decide, (mt_6 (List.mem_of_getElem? (i := 58) rfl)), Or.inr ⟨rfl, rfl, rfl⟩, by decide +kernel⟩
set_option maxRecDepth 100000 in
theorem jX12_init_1061 : ev_jok cfX12_init RX12 cX12_init 1 1 true 1061 (7, (.newarray .int, 2, 0, 0, 0), 0, 0, 0) := ⟨ac_int, by decide +kernel⟩
set_option maxRecDepth 100000 in
theorem jX12_init_1063 : ev_jok cfX12_init RX12 cX12_init 1 1 true 1063 (9, (.putfield 55, 3, 0, 0, 0), 12, 24, 0) := ⟨55, (RX12, TX12, 67), rfl, by decide, (mt_6 (List.mem_of_getElem? (i := 59) rfl)), Or.inr ⟨rfl, rfl, rfl⟩, by decide +kernel⟩
set_option maxRecDepth 100000 in
theorem jX12_init_1070 : ev_jok cfX12_init RX12 cX12_init 1 1 true 1070 (7, (.newarray .int, 2, 0, 0, 0), 0, 0, 0) := ⟨ac_int, by decide +kernel⟩
set_option maxRecDepth 100000 in
theorem jX12_init_1072 : ev_jok cfX12_init RX12 cX12_init 1 1 true 1072 (9, (.putfield 58, 3, 0, 0, 0), 12, 25, 0) := ⟨58, (RX12, TX12, 67), rfl, by decide, (mt_6 (List.mem_of_getElem? (i := 60) rfl)), Or.inr ⟨rfl, rfl, rfl⟩, by decide +kernel⟩
set_option maxRecDepth 100000 in
theorem jX12_init_1078 : ev_jok cfX12_init RX12 cX12_init 1 1 true 1078 (7, (.newarray .int, 2, 0, 0, 0), 0, 0, 0) := ⟨ac_int, by decide +kernel⟩
set_option maxRecDepth 100000 in
theorem jX12_init_1080 : ev_jok cfX12_init RX12 cX12_init 1 1 true 1080 (9, (.putfield 61, 3, 0, 0, 0), 12, 29, 0) := ⟨61, (RX12, TX12, 67), rfl, by decide, (mt_6 (List.mem_of_getElem? (i := 64) rfl)), Or.inr ⟨rfl, rfl, rfl⟩, by decide +kernel⟩
set_option maxRecDepth 100000 in
theorem jX12_init_1091 : ev_jok cfX12_init RX12 cX12_init 1 1 true 1091 (7, (.newarray .int, 2, 0, 0, 0), 0, 0, 0) := ⟨ac_int, by decide +kernel⟩
set_option maxRecDepth 100000 in
theorem jX12_init_1093 : ev_jok cfX12_init RX12 cX12_init 1 1 true 1093 (9, (.putfield 68, 3, 0, 0, 0), 12, 36, 0) := ⟨68, (RX12, TX12, 67), rfl, by decide, (mt_6 (List.mem_of_getElem? (i := 71) rfl)), Or.inr ⟨rfl, rfl, rfl⟩, by decide +kernel⟩
set_option maxRecDepth 100000 in
theorem jX12_init_1099 : ev_jok cfX12_init RX12 cX12_init 1 1 true 1099 (7, (.newarray .int, 2, 0, 0, 0), 0, 0, 0) := ⟨ac_int, by decide +kernel⟩
set_option maxRecDepth 100000 in
theorem jX12_init_1101 : ev_jok cfX12_init RX12 cX12_init 1 1 true 1101 (9, (.putfield 71, 3, 0, 0, 0), 12, 38, 0) := ⟨71, (RX12, TX12, 67), rfl, by decide, (mt_6 (List.mem_of_getElem? (i := 73) rfl)), Or.inr ⟨rfl, rfl, rfl⟩, by decide +kernel⟩
set_option maxRecDepth 100000 in
theorem jX12_init_1107 : ev_jok cfX12_init RX12 cX12_init 1 1 true 1107 (7, (.newarray .int, 2, 0, 0, 0), 0, 0, 0) := ⟨ac_int, by decide +kernel⟩
set_option maxRecDepth 100000 in
theorem jX12_init_1109 : ev_jok cfX12_init RX12 cX12_init 1 1 true 1109 (9, (.putfield 74, 3, 0, 0, 0), 12, 40, 0) := ⟨74, (RX12, TX12, 67), rfl, by decide, (mt_6 (List.mem_of_getElem? (i := 75) rfl)), Or.inr ⟨rfl, rfl, rfl⟩, by decide +kernel⟩
set_option maxRecDepth 100000 in
theorem jX12_init_1115 : ev_jok cfX12_init RX12 cX12_init 1 1 true 1115 (7, (.newarray .int, 2, 0, 0, 0), 0, 0, 0) := ⟨ac_int, by decide +kernel⟩
set_option maxRecDepth 100000 in
theorem jX12_init_1117 : ev_jok cfX12_init RX12 cX12_init 1 1 true 1117 (9, (.putfield 77, 3, 0, 0, 0), 12, 41, 0) := ⟨77, (RX12, TX12, 67), rfl, by decide, (mt_6 (List.mem_of_getElem? (i := 76) rfl)), Or.inr ⟨rfl, rfl, rfl⟩, by decide +kernel⟩
set_option maxRecDepth 100000 in
theorem jX12_init_1124 : ev_jok cfX12_init RX12 cX12_init 1 1 true 1124 (7, (.newarray .int, 2, 0, 0, 0), 0, 0, 0) := ⟨ac_int, by decide +kernel⟩
set_option maxRecDepth 100000 in
theorem jX12_init_1126 : ev_jok cfX12_init RX12 cX12_init 1 1 true 1126 (9, (.putfield 80, 3, 0, 0, 0), 12, 42, 0) := ⟨80, (RX12, TX12, 67), rfl, by decide, (mt_6 (List.mem_of_getElem? (i := 77) rfl)), Or.inr ⟨rfl, rfl, rfl⟩, by decide +kernel⟩
set_option maxRecDepth 100000 in
theorem jX12_init_1133 : ev_jok cfX12_init RX12 cX12_init 1 1 true 1133 (7, (.newarray .int, 2, 0, 0, 0), 0, 0, 0) := ⟨ac_int, by decide +kernel⟩
set_option maxRecDepth 100000 in
theorem jX12_init_1135 : ev_jok cfX12_init RX12 cX12_init 1 1 true 1135 (9, (.putfield 83, 3, 0, 0, 0), 12, 44, 0) := ⟨83, (RX12, TX12, 67), rfl, by decide, (mt_6 (List.mem_of_getElem? (i := 79) rfl)), Or.inr ⟨rfl, rfl, rfl⟩, by decide +kernel⟩
set_option maxRecDepth 100000 in
theorem jX12_init_1141 : ev_jok cfX12_init RX12 cX12_init 1 1 true 1141 (7, (.newarray .int, 2, 0, 0, 0), 0, 0, 0) := ⟨ac_int, by decide +kernel⟩
set_option maxRecDepth 100000 in
theorem jX12_init_1143 : ev_jok cfX12_init RX12 cX12_init 1 1 true 1143 (9, (.putfield 86, 3, 0, 0, 0), 12, 46, 0) := ⟨86, (RX12, TX12, 67), rfl, by decide, (mt_6 (List.mem_of_getElem? (i := 81) rfl)), Or.inr ⟨rfl, rfl, rfl⟩, by decide +kernel⟩
set_option maxRecDepth 100000 in
theorem jX12_init_1149 : ev_jok cfX12_init RX12 cX12_init 1 1 true 1149 (7, (.newarray .int, 2, 0, 0, 0), 0, 0, 0) := ⟨ac_int, by decide +kernel⟩
set_option maxRecDepth 100000 in
theorem jX12_init_1151 : ev_jok cfX12_init RX12 cX12_init 1 1 true 1151 (9, (.putfield 89, 3, 0, 0, 0), 12, 47, 0) := ⟨89, (RX12, TX12, 67), rfl, by decide, (mt_6 (List.mem_of_getElem? (i := 82) rfl)), Or.inr ⟨rfl, rfl, rfl⟩, by decide +kernel⟩
set_option maxRecDepth 100000 in
theorem jX12_init_1157 : ev_jok cfX12_init RX12 cX12_init 1 1 true 1157 (7, (.newarray .int, 2, 0, 0, 0), 0, 0, 0) := ⟨ac_int, by decide +kernel⟩
set_option maxRecDepth 100000 in
theorem jX12_init_1159 : ev_jok cfX12_init RX12 cX12_init 1 1 true 1159 (9, (.putfield 92, 3, 0, 0, 0), 12, 49, 0) := ⟨92, (RX12, TX12, 67), rfl, by decide, (mt_6 (List.mem_of_getElem? (i := 84) rfl)), Or.inr ⟨rfl, rfl, rfl⟩, by decide +kernel⟩
set_option maxRecDepth 100000 in
theorem jX12_init_1165 : ev_jok cfX12_init RX12 cX12_init 1 1 true 1165 (7, (.newarray .int, 2, 0, 0, 0), 0, 0, 0) := ⟨ac_int, by decide +kernel⟩
set_option maxRecDepth 100000 in
theorem jX12_init_1167 : ev_jok cfX12_init RX12 cX12_init 1 1 true 1167 (9, (.putfield 95, 3, 0, 0, 0), 12, 50, 0) := ⟨95, (RX12, TX12, 67), rfl, by decide, (mt_6 (List.mem_of_getElem? (i := 85) rfl)), Or.inr ⟨rfl, rfl, rfl⟩, by decide +kernel⟩
set_option maxRecDepth 100000 in
theorem jX12_init_1173 : ev_jok cfX12_init RX12 cX12_init 1 1 true 1173 (7, (.newarray .int, 2, 0, 0, 0), 0, 0, 0) := ⟨ac_int, by decide +kernel⟩
set_option maxRecDepth 100000 in
theorem jX12_init_1175 : ev_jok cfX12_init RX12 cX12_init 1 1 true 1175 (9, (.putfield 98, 3, 0, 0, 0), 12, 51, 0) := ⟨98, (RX12, TX12, 67), rfl, by decide, (mt_6 (List.mem_of_getElem? (i := 86) rfl)), Or.inr ⟨rfl, rfl, rfl⟩, by decide +kernel⟩
set_option maxRecDepth 100000 in
theorem jX12_init_1182 : ev_jok cfX12_init RX12 cX12_init 1 1 true 1182 (7, (.newarray .int, 2, 0, 0, 0), 0, 0, 0) := ⟨ac_int, by decide +kernel⟩
set_option maxRecDepth 100000 in
theorem jX12_init_1184 : ev_jok cfX12_init RX12 cX12_init 1 1 true 1184 (9, (.putfield 101, 3, 0, 0, 0), 12, 52, 0) := ⟨101, (RX12, TX12, 67), rfl, by decide, (mt_6 (List.mem_of_getElem? (i := 87) rfl)), Or.inr ⟨rfl, rfl, rfl⟩, by decide +kernel⟩
set_option maxRecDepth 100000 in
theorem jX12_init_1190 : ev_jok cfX12_init RX12 cX12_init 1 1 true 1190 (7, (.newarray .int, 2, 0, 0, 0), 0, 0, 0) := ⟨ac_int, by decide +kernel⟩
set_option maxRecDepth 100000 in
theorem jX12_init_1192 : ev_jok cfX12_init RX12 cX12_init 1 1 true 1192 (9, (.putfield 104, 3, 0, 0, 0), 12, 54, 0) := ⟨104, (RX12, TX12, 67), rfl, by decide, (mt_6 (List.mem_of_getElem? (i := 89) rfl)), Or.inr ⟨rfl, rfl, rfl⟩, by decide +kernel⟩
set_option maxRecDepth 100000 in
theorem jX12_init_1198 : ev_jok cfX12_init RX12 cX12_init 1 1 true 1198 (7, (.newarray .int, 2, 0, 0, 0), 0, 0, 0) := ⟨ac_int, by decide +kernel⟩
set_option maxRecDepth 100000 in
theorem jX12_init_1200 : ev_jok cfX12_init RX12 cX12_init 1 1 true 1200 (9, (.putfield 107, 3, 0, 0, 0), 12, 55, 0) := ⟨107, (RX12, TX12, 67), rfl, by decide, (mt_6 (List.mem_of_getElem? (i := 90) rfl)), Or.inr ⟨rfl, rfl, rfl⟩, by decide +kernel⟩
set_option maxRecDepth 100000 in
theorem jX12_init_1206 : ev_jok cfX12_init RX12 cX12_init 1 1 true 1206 (7, (.newarray .int, 2, 0, 0, 0), 0, 0, 0) := ⟨ac_int, by decide +kernel⟩
set_option maxRecDepth 100000 in
theorem jX12_init_1208 : ev_jok cfX12_init RX12 cX12_init 1 1 true 1208 (9, (.putfield 110, 3, 0, 0, 0), 12, 56, 0) := ⟨110, (RX12, TX12, 67), rfl, by decide, (mt_6 (List.mem_of_getElem? (i := 91) rfl)), Or.inr ⟨rfl, rfl, rfl⟩, by decide +kernel⟩
set_option maxRecDepth 100000 in
theorem jX12_init_1214 : ev_jok cfX12_init RX12 cX12_init 1 1 true 1214 (7, (.newarray .int, 2, 0, 0, 0), 0, 0, 0) := ⟨ac_int, by decide +kernel⟩
set_option maxRecDepth 100000 in
theorem jX12_init_1216 : ev_jok cfX12_init RX12 cX12_init 1 1 true 1216 (9, (.putfield 113, 3, 0, 0, 0), 12, 58, 0) := ⟨113, (RX12, TX12, 67), rfl, by decide, (mt_6 (List.mem_of_getElem? (i := 93) rfl)), Or.inr ⟨rfl, rfl, rfl⟩, by decide +kernel⟩
set_option maxRecDepth 100000 in
theorem jX12_init_1222 : ev_jok cfX12_init RX12 cX12_init 1 1 true 1222 (7, (.newarray .int, 2, 0, 0, 0), 0, 0, 0) := ⟨ac_int, by decide +kernel⟩
set_option maxRecDepth 100000 in
theorem jX12_init_1224 : ev_jok cfX12_init RX12 cX12_init 1 1 true 1224 (9, (.putfield 116, 3, 0, 0, 0), 12, 60, 0) := ⟨116, (RX12, TX12, 67), rfl, by decide, (mt_6 (List.mem_of_getElem? (i := 95) rfl)), Or.inr ⟨rfl, rfl, rfl⟩, by decide +kernel⟩
set_option maxRecDepth 100000 in
theorem jX12_init_1230 : ev_jok cfX12_init RX12 cX12_init 1 1 true 1230 (7, (.newarray .int, 2, 0, 0, 0), 0, 0, 0) := ⟨ac_int, by decide +kernel⟩
set_option maxRecDepth 100000 in
theorem jX12_init_1232 : ev_jok cfX12_init RX12 cX12_init 1 1 true 1232 (9, (.putfield 119, 3, 0, 0, 0), 12, 61, 0) := ⟨119, (RX12, TX12, 67), rfl, by decide, (mt_6 (List.mem_of_getElem? (i := 96) rfl)), Or.inr ⟨rfl, rfl, rfl⟩, by decide +kernel⟩
set_option maxRecDepth 100000 in
theorem jX12_init_1238 : ev_jok cfX12_init RX12 cX12_init 1 1 true 1238 (7, (.newarray .int, 2, 0, 0, 0), 0, 0, 0) := ⟨ac_int, by decide +kernel⟩
set_option maxRecDepth 100000 in
theorem jX12_init_1240 : ev_jok cfX12_init RX12 cX12_init 1 1 true 1240 (9, (.putfield 122, 3, 0, 0, 0), 12, 62, 0) := ⟨122, (RX12, TX12, 67), rfl, by decide, (mt_6 (List.mem_of_getElem? (i := 97) rfl)), Or.inr ⟨rfl, rfl, rfl⟩, by decide +kernel⟩
set_option maxRecDepth 100000 in
theorem jX12_init_1247 : ev_jok cfX12_init RX12 cX12_init 1 1 true 1247 (7, (.newarray .int, 2, 0, 0, 0), 0, 0, 0) := ⟨ac_int, by decide +kernel⟩
set_option maxRecDepth 100000 in
theorem jX12_init_1249 : ev_jok cfX12_init RX12 cX12_init 1 1 true 1249 (9, (.putfield 125, 3, 0, 0, 0), 12, 66, 0) := ⟨125, (RX12, TX12, 67), rfl, by decide, (mt_6 (List.mem_of_getElem? (i := 101) rfl)), Or.inr ⟨rfl, rfl, rfl⟩, by decide +kernel⟩
set_option maxRecDepth 100000 in
theorem jX12_init_1252 : ev_jok cfX12_init RX12 cX12_init 1 1 true 1252 (4, (.return_, 1, 0, 0, 0), 0, 0, 0) := by decide +kernel
set_option maxRecDepth 100000 in
theorem jnX12_init : ∀ e ∈ tnX12_init, ev_jok cfX12_init RX12 cX12_init 1 1 true e.1 e.2 := List.forall_mem_cons.mpr ⟨jX12_init_1, List.forall_mem_cons.mpr ⟨jX12_init_7, List.forall_mem_cons.mpr ⟨jX12_init_9, List.forall_mem_cons.mpr ⟨jX12_init_16, List.forall_mem_cons.mpr ⟨jX12_init_18, List.forall_mem_cons.mpr ⟨jX12_init_24, List.forall_mem_cons.mpr ⟨jX12_init_26, List.forall_mem_cons.mpr ⟨jX12_init_32, List.forall_mem_cons.mpr ⟨jX12_init_34, List.forall_mem_cons.mpr ⟨jX12_init_40, List.forall_mem_cons.mpr ⟨jX12_init_42, List.forall_mem_cons.mpr ⟨jX12_init_48, List.forall_mem_cons.mpr ⟨jX12_init_50, List.forall_mem_cons.mpr ⟨jX12_init_56, List.forall_mem_cons.mpr ⟨jX12_init_58, List.forall_mem_cons.mpr ⟨jX12_init_65, List.forall_mem_cons.mpr ⟨jX12_init_67, List.forall_mem_cons.mpr ⟨jX12_init_74, List.forall_mem_cons.mpr ⟨jX12_init_76, List.forall_mem_cons.mpr ⟨jX12_init_83, List.forall_mem_cons.mpr ⟨jX12_init_1015, List.forall_mem_cons.mpr ⟨jX12_init_1020, List.forall_mem_cons.mpr ⟨jX12_init_1022, List.forall_mem_cons.mpr ⟨jX12_init_1028, List.forall_mem_cons.mpr ⟨jX12_init_1030, List.forall_mem_cons.mpr ⟨jX12_init_1036, List.forall_mem_cons.mpr ⟨jX12_init_1038, List.forall_mem_cons.mpr ⟨jX12_init_1044, List.forall_mem_cons.mpr ⟨jX12_init_1046, List.forall_mem_cons.mpr ⟨jX12_init_1052, List.forall_mem_cons.mpr ⟨jX12_init_1054, List.forall_mem_cons.mpr ⟨jX12_init_1061, List.forall_mem_cons.mpr ⟨jX12_init_1063, List.forall_mem_cons.mpr ⟨jX12_init_1070, List.forall_mem_cons.mpr ⟨jX12_init_1072, List.forall_mem_cons.mpr ⟨jX12_init_1078, List.forall_mem_cons.mpr ⟨jX12_init_1080, List.forall_mem_cons.mpr ⟨jX12_init_1091, List.forall_mem_cons.mpr ⟨jX12_init_1093, List.forall_mem_cons.mpr ⟨jX12_init_1099, List.forall_mem_cons.mpr ⟨jX12_init_1101, List.forall_mem_cons.mpr ⟨jX12_init_1107, List.forall_mem_cons.mpr ⟨jX12_init_1109, List.forall_mem_cons.mpr ⟨jX12_init_1115, List.forall_mem_cons.mpr ⟨jX12_init_1117, List.forall_mem_cons.mpr ⟨jX12_init_1124, List.forall_mem_cons.mpr ⟨jX12_init_1126, List.forall_mem_cons.mpr ⟨jX12_init_1133, List.forall_mem_cons.mpr ⟨jX12_init_1135, List.forall_mem_cons.mpr ⟨jX12_init_1141, List.forall_mem_cons.mpr ⟨jX12_init_1143, List.forall_mem_cons.mpr ⟨jX12_init_1149, List.forall_mem_cons.mpr ⟨jX12_init_1151, List.forall_mem_cons.mpr ⟨jX12_init_1157, List.forall_mem_cons.mpr ⟨jX12_init_1159, List.forall_mem_cons.mpr ⟨jX12_init_1165, List.forall_mem_cons.mpr ⟨jX12_init_1167, List.forall_mem_cons.mpr ⟨jX12_init_1173, List.forall_mem_cons.mpr ⟨jX12_init_1175, List.forall_mem_cons.mpr ⟨jX12_init_1182, List.forall_mem_cons.mpr ⟨jX12_init_1184, List.forall_mem_cons.mpr ⟨jX12_init_1190, List.forall_mem_cons.mpr ⟨jX12_init_1192, List.forall_mem_cons.mpr ⟨jX12_init_1198, List.forall_mem_cons.mpr ⟨jX12_init_1200, List.forall_mem_cons.mpr ⟨jX12_init_1206, List.forall_mem_cons.mpr ⟨jX12_init_1208, List.forall_mem_cons.mpr ⟨jX12_init_1214, List.forall_mem_cons.mpr ⟨jX12_init_1216, List.forall_mem_cons.mpr ⟨jX12_init_1222, List.forall_mem_cons.mpr ⟨jX12_init_1224, List.forall_mem_cons.mpr ⟨jX12_init_1230, List.forall_mem_cons.mpr ⟨jX12_init_1232, List.forall_mem_cons.mpr ⟨jX12_init_1238, List.forall_mem_cons.mpr ⟨jX12_init_1240, List.forall_mem_cons.mpr ⟨jX12_init_1247, List.forall_mem_cons.mpr ⟨jX12_init_1249, List.forall_mem_cons.mpr ⟨jX12_init_1252, fun _ h => absurd h List.not_mem_nil⟩⟩⟩⟩⟩⟩⟩⟩⟩⟩⟩⟩⟩⟩⟩⟩⟩⟩⟩⟩⟩⟩⟩⟩⟩⟩⟩⟩⟩⟩⟩⟩⟩⟩⟩⟩⟩⟩⟩⟩⟩⟩⟩⟩⟩⟩⟩⟩⟩⟩⟩⟩⟩⟩⟩⟩⟩⟩⟩⟩⟩⟩⟩⟩⟩⟩⟩⟩⟩⟩⟩⟩⟩⟩⟩⟩⟩⟩
set_option maxRecDepth 100000 in
theorem jtX12_init : ∀ e ∈ tbX12_init, ev_jok cfX12_init RX12 cX12_init 1 1 true e.1 e.2 := ev_tball (lk := lk_RX12) lkok_RX12 (by decide +kernel) (by decide +kernel) jnX12_init
set_option maxRecDepth 100000 in
theorem mgX12_init {vs : List Value} {S : ev_S} {D : ev_D} {v : Int32} {S2 : ev_S} {D2 : ev_D} (h : gX12_init vs S D = some (v, S2, D2)) : ev_M 1 (sC S2) (sA S2) yX12_init cX12_init 1 none vs S D S2 (v, D2) := by
  unfold gX12_init at h
  obtain ⟨h1, h2, h3⟩ := ev_bif h
  exact ev_met (ini := true) (plainFor_of_name (by decide)) (fun _ => rfl) h1 h2 (fun F hR => ev_run_ok hR (Or.inl rfl) jtX12_init (ev_no5 (by decide +kernel)) 4000 0 _ [] (ev_z S) D h3)
