/-! ===== calls ===== -/
/-- what the tables say of a method that is called -/
def ev_Y (y : MethodName) (bs : ByteArray) (mL : Nat) (ret : Option FieldType) (n : Nat) : Prop := Cond.code y bs mL ret ∈ lw_tbl ∧ Cond.initialized y.cls ∈ lw_tbl ∧ (y.cls ≠ "java/lang/invoke/MethodHandle" ∧ y.cls ≠ "java/lang/invoke/VarHandle" ∧ (parseMethodDescriptor y.desc).map (fun d => d.parameters.length) = some n) ∧ mL ≤ 60
def ev_YV (y : MethodName) (bs : ByteArray) (mL : Nat) (ret : Option FieldType) (n : Nat) : Prop := ev_Y y bs mL ret n ∧ Cond.instanceMethod y ∈ lw_tbl ∧ Cond.selects y.cls y y ∈ lw_tbl
def ev_YS (y : MethodName) (bs : ByteArray) (mL : Nat) (ret : Option FieldType) (n : Nat) : Prop := ev_Y y bs mL ret n ∧ Cond.static y ∈ lw_tbl
def ev_YI (y : MethodName) (bs : ByteArray) (mL : Nat) (n : Nat) : Prop := ev_Y y bs mL none n ∧ Cond.instanceMethod y ∈ lw_tbl ∧ y.name = "<init>"
def ev_cat (st : List Value) : Bool := st.all ev_plain && decide (st.length ≤ 8)
theorem ev_cat_sum (b : Nat) : ∀ (st : List Value), st.all ev_plain = true → ((st.map (ev_v b)).map fun v => v.category).sum = st.length
  | [], _ => rfl
  | v :: st, h => by
    simp only [List.all_cons, Bool.and_eq_true] at h
    have ih := ev_cat_sum b st h.2
    simp only [List.map_cons, List.sum_cons, ev_plain_cat h.1 b, ih, List.length_cons]
    omega
theorem ev_cat_le {st : List Value} (h : ev_cat st = true) (b : Nat) : ((st.map (ev_v b)).map fun v => v.category).sum ≤ 8 := by
  simp only [ev_cat, Bool.and_eq_true, decide_eq_true_eq] at h
  rw [ev_cat_sum b st h.1]
  exact h.2
def ev_add (S2 S : ev_S) (N2 NS2 : Nat) : ev_S := (sZ S2, sK S2, sL S2, sE S2, sC S + N2, sA S + NS2)
section Calls1
variable {p : Program} {l : Launch} {e : Env} {R : Room} {s : State} {m : MethodId} {args : Array Value} {below : List Frame} {meth : Method} {c : Code} {G : ev_G} {Q : State → Prop}
theorem ev_after {H : Heap} {locs : List Loc} {ca sa N2 NS2 pc : Nat} {ls : Array Slot} {st0 rest : List Value} {ret : Option FieldType} {S2 : ev_S} {r : Int32 × ev_D} {a : Array Value}
    (hr : va_Run p l e R s m args below meth c H locs ca sa N2 NS2 (F0 m pc ls st0) rest (ev_Q G ret S2 r a) (fun q => gB G < q)) (hS : va_S (fun q => gB G < q) s.heap H locs)
    (kk : ∀ (H1 : Heap) (locs1 : List Loc), ev_W G S2 r.2 H1 → va_S (fun q => gB G < q) s.heap H1 locs1 → W p l e R s m args below meth c H1 locs1 (ca + N2) (sa + NS2) Q (F0 m (pc + 3) ls ((ev_rt ret r.1).toList ++ rest))) : W p l e R s m args below meth c H locs ca sa Q (F0 m pc ls st0) := by
  intro T hT X
  obtain ⟨v, st₀, t, T', L, h0, X', hL, e1, e2, ⟨hv, hw, hz, hk⟩, stp⟩ := hr T hT X
  cases hv
  rw [h0] at hz hk
  obtain ⟨t2, a1, b1⟩ := kk T'.heap (locs ++ L) (by rw [e1]; exact hw)
    ⟨Nat.le_trans hS.1 (by rw [e1]; exact hz), fun q h1 h2 => by rw [e1, hk q (Nat.lt_of_lt_of_le h1 hS.1) h2]; exact hS.2.1 q h1 h2, fun q hq => by
      rcases List.mem_append.mp hq with h | h
      · exact hS.2.2 q h
      · exact hL q h⟩ T' rfl X'
  exact ⟨t2, stp t2 a1, b1⟩
theorem ev_blind {vs : List Value} {S : ev_S} {D : ev_D} : FrameBlind (ev_Pc G vs S D) := fun a U g mk q => ⟨q.1, q.2.1, q.2.2⟩
theorem ev_pay {y : MethodName} {bs : ByteArray} {mL n : Nat} {ret : Option FieldType} (hT : ev_T G) (hWm : (gS G).WarmedH s.vm) (hY : ev_Y y bs mL ret n) : ∀ w ∈ [Cond.code y bs mL ret], ∀ (a' : Array Value) (U : State), s.WarmedH U.vm → w.before a' U = true := by
  intro w hw a' U hU
  have e : w = Cond.code y bs mL ret := by simpa using hw
  subst e
  exact ev_word hT (State.WarmedH.trans hWm hU) hY.1 rfl a'
end Calls1
section Calls2
variable {own : String} {cc : ByteArray} {nL d N NS : Nat} {ini : Bool} {S S2 : ev_S} {r : Int32 × ev_D} {F : ev_Fr} {D : ev_D} {pc : Nat} {lv : ev_V} {st : List Value} {y : MethodName} {bs : ByteArray} {mL n idx d2 N2 NS2 : Nat} {ret : Option FieldType} {q : Nat} {vs : List Value}
theorem ev_rt_ps (b : Nat) (ret : Option FieldType) (v : Int32) (st : List Value) : (ev_rt ret v).toList ++ st.map (ev_v b) = (ev_ps ret v st).map (ev_v b) := by
  cases ret <;> rfl
theorem ev_stk (b : Nat) (vs st : List Value) : (vs.reverse ++ st).map (ev_v b) = (vs.map (ev_v b)).reverse ++ st.map (ev_v b) := by simp
/-- a call of an instance method -/
theorem ev_callV (hX : ev_X own cc nL d N NS ini F) (hY : ev_YV y bs mL ret n) (hl : Cond.methodLink own idx y ∈ lw_tbl) (hM : ev_M d2 N2 NS2 y bs mL ret (.ref q :: vs) S D S2 r) (hd2 : d2 + 1 ≤ d) (ci : Nat) (hq : sK S q = ci + 3) (hc : (vwCl[ci]?).map (fun x => x.1) = some y.cls) (hn : vs.length = n) (hst : ev_cat st = true) (hdg : decode cc pc = .ok (.invokevirtual idx, 3)) (hC : sC S + N2 ≤ N ∧ sA S + NS2 ≤ NS)
    (kk : F (ev_add S2 S N2 NS2) r.2 (pc + 3) lv (ev_ps ret r.1 st)) : F S D pc lv (vs.reverse ++ .ref q :: st) := by
  obtain ⟨p, l, e, R, s, m, args, below, meth, c, G, Q, ⟨hx, hb, hml, hown, hWm, hT, ⟨hr1, hr2, hr3, hr4⟩, -, -⟩, rfl⟩ := hX
  intro H locs ls hW hS hL
  obtain ⟨⟨y1, y2, y3, y4⟩, y5, y6⟩ := hY
  obtain ⟨h1, h2, h3⟩ := hW.2.1 q (by omega)
  obtain ⟨r0, a1, cell, q1, q2, q3, q4⟩ := h3.2.2 (by omega)
  rw [hq, Nat.add_sub_cancel] at a1 q2
  have hcl : r0.1 = y.cls := by rw [a1] at hc; simpa using hc
  have hKn := (ev_K hT hWm).1 ci _ a1
  have hq0 : ev_v (gB G) (.ref q) = .ref (gB G + q) := by
    simp only [ev_v, ev_rf]; rw [if_neg (by omega)]
  rw [ev_stk, List.map_cons, hq0]
  have hfc : s.vm.findClass y.cls = some cell.cls := by rw [← hcl, q2]; exact hKn.2.1
  refine ev_after (va_runV (C := y.cls) (b := gB G + q) (As := vs.map (ev_v (gB G))) (rest := st.map (ev_v (gB G))) (n := n) (mc := N2) (ms := NS2) (maxL := mL) (bytes := bs) (ret := ret) (Ts := []) ⟨hx, hb, hml, hown, fun w h => by cases h⟩ (hM l G hT d2 (Nat.le_refl _))
    ⟨⟨rfl, rfl, by show d2 + 1 ≤ R.frames; omega, by show 8 + (mL + 11) + 100 * d2 ≤ R.locals; omega, ev_pay hT hWm ⟨y1, y2, y3, y4⟩, List.mem_cons_self, ev_word hT hWm y1 rfl args, ev_word hT hWm y2 rfl args, ⟨y3.1, y3.2.1⟩, fun sig h => by have h2 := y3.2.2; rw [h] at h2; exact (Option.some.inj h2).symm, ev_word hT hWm hl rfl args⟩, ev_word hT hWm y5 rfl args, ev_word hT hWm y6 rfl args⟩
    ⟨ev_blind, ⟨cell, q1, by rw [q3]; rfl, hfc⟩, fun U hU hWU => ⟨by rw [List.map_cons, hq0], State.WarmedH.trans hWm hWU, by rw [hU]; exact hW⟩⟩ rfl (by rw [List.length_map]; exact hn) hL.1 rfl (lv_room (ev_cat_le hst _)) hdg ⟨by rw [hr3]; exact hC.1, by rw [hr4]; exact hC.2⟩) hS (fun H1 locs1 hW1 hS1 => ?_)
  rw [ev_rt_ps]
  exact kk H1 locs1 ls (ev_sm.W ⟨rfl, rfl, rfl, rfl⟩ hW1) hS1 hL
/-- a call of a static method -/
theorem ev_callS (hX : ev_X own cc nL d N NS ini F) (hY : ev_YS y bs mL ret n) (hl : Cond.methodLink own idx y ∈ lw_tbl) (hM : ev_M d2 N2 NS2 y bs mL ret vs S D S2 r) (hd2 : d2 + 1 ≤ d) (hn : vs.length = n) (hst : ev_cat st = true) (hdg : decode cc pc = .ok (.invokestatic idx, 3)) (hC : sC S + N2 ≤ N ∧ sA S + NS2 ≤ NS)
    (kk : F (ev_add S2 S N2 NS2) r.2 (pc + 3) lv (ev_ps ret r.1 st)) : F S D pc lv (vs.reverse ++ st) := by
  obtain ⟨p, l, e, R, s, m, args, below, meth, c, G, Q, ⟨hx, hb, hml, hown, hWm, hT, ⟨hr1, hr2, hr3, hr4⟩, -, -⟩, rfl⟩ := hX
  intro H locs ls hW hS hL
  obtain ⟨⟨y1, y2, y3, y4⟩, y5⟩ := hY
  rw [ev_stk]
  refine ev_after (va_runS (As := vs.map (ev_v (gB G))) (rest := st.map (ev_v (gB G))) (n := n) (mc := N2) (ms := NS2) (maxL := mL) (bytes := bs) (ret := ret) (Ts := []) ⟨hx, hb, hml, hown, fun w h => by cases h⟩ (hM l G hT d2 (Nat.le_refl _))
    ⟨⟨rfl, rfl, by show d2 + 1 ≤ R.frames; omega, by show 8 + (mL + 11) + 100 * d2 ≤ R.locals; omega, ev_pay hT hWm ⟨y1, y2, y3, y4⟩, List.mem_cons_self, ev_word hT hWm y1 rfl args, ev_word hT hWm y2 rfl args, ⟨y3.1, y3.2.1⟩, fun sig h => by have h2 := y3.2.2; rw [h] at h2; exact (Option.some.inj h2).symm, ev_word hT hWm hl rfl args⟩, ev_word hT hWm y5 rfl args⟩
    ⟨ev_blind, fun U hU hWU => ⟨rfl, State.WarmedH.trans hWm hWU, by rw [hU]; exact hW⟩⟩ rfl (by rw [List.length_map]; exact hn) hL.1 rfl (lv_room (ev_cat_le hst _)) hdg ⟨by rw [hr3]; exact hC.1, by rw [hr4]; exact hC.2⟩) hS (fun H1 locs1 hW1 hS1 => ?_)
  rw [ev_rt_ps]
  exact kk H1 locs1 ls (ev_sm.W ⟨rfl, rfl, rfl, rfl⟩ hW1) hS1 hL
/-- of a nest mate's private static method -/
theorem ev_callSN (hX : ev_X own cc nL d N NS ini F) (hY : ev_YS y bs mL ret n) {host : String} (hl : Cond.methodLinkNest own idx y host ∈ lw_tbl) (hM : ev_M d2 N2 NS2 y bs mL ret vs S D S2 r) (hd2 : d2 + 1 ≤ d) (hn : vs.length = n) (hst : ev_cat st = true) (hdg : decode cc pc = .ok (.invokestatic idx, 3)) (hC : sC S + N2 ≤ N ∧ sA S + NS2 ≤ NS)
    (kk : F (ev_add S2 S N2 NS2) r.2 (pc + 3) lv (ev_ps ret r.1 st)) : F S D pc lv (vs.reverse ++ st) := by
  obtain ⟨p, l, e, R, s, m, args, below, meth, c, G, Q, ⟨hx, hb, hml, hown, hWm, hT, ⟨hr1, hr2, hr3, hr4⟩, -, -⟩, rfl⟩ := hX
  intro H locs ls hW hS hL
  obtain ⟨⟨y1, y2, y3, y4⟩, y5⟩ := hY
  rw [ev_stk]
  refine ev_after (va_runSN (host := host) (As := vs.map (ev_v (gB G))) (rest := st.map (ev_v (gB G))) (n := n) (mc := N2) (ms := NS2) (maxL := mL) (bytes := bs) (ret := ret) (Ts := []) ⟨hx, hb, hml, hown, fun w h => by cases h⟩ (hM l G hT d2 (Nat.le_refl _))
    ⟨⟨⟨rfl, rfl, by show d2 + 1 ≤ R.frames; omega, by show 8 + (mL + 11) + 100 * d2 ≤ R.locals; omega, ev_pay hT hWm ⟨y1, y2, y3, y4⟩, List.mem_cons_self⟩, ev_word hT hWm y1 rfl args, ev_word hT hWm y2 rfl args, ⟨y3.1, y3.2.1⟩, fun sig h => by have h2 := y3.2.2; rw [h] at h2; exact (Option.some.inj h2).symm, va_Nw.use rfl (ev_nestM hT hWm hl)⟩, ev_word hT hWm y5 rfl args, trivial⟩
    ⟨ev_blind, fun U hU hWU => ⟨rfl, State.WarmedH.trans hWm hWU, by rw [hU]; exact hW⟩⟩ rfl (by rw [List.length_map]; exact hn) hL.1 rfl (lv_room (ev_cat_le hst _)) hdg ⟨by rw [hr3]; exact hC.1, by rw [hr4]; exact hC.2⟩) hS (fun H1 locs1 hW1 hS1 => ?_)
  rw [ev_rt_ps]
  exact kk H1 locs1 ls (ev_sm.W ⟨rfl, rfl, rfl, rfl⟩ hW1) hS1 hL
/-- of a constructor -/
theorem ev_callI (hX : ev_X own cc nL d N NS ini F) (hY : ev_YI y bs mL n) (hl : Cond.methodLink own idx y ∈ lw_tbl) (hM : ev_M d2 N2 NS2 y bs mL none (.ref q :: vs) S D S2 r) (hd2 : d2 + 1 ≤ d) (hq : ¬ q = 0) (hn : vs.length = n) (hst : ev_cat st = true) (hdg : decode cc pc = .ok (.invokespecial idx, 3)) (hC : sC S + N2 ≤ N ∧ sA S + NS2 ≤ NS)
    (kk : F (ev_add S2 S N2 NS2) r.2 (pc + 3) lv st) : F S D pc lv (vs.reverse ++ .ref q :: st) := by
  obtain ⟨p, l, e, R, s, m, args, below, meth, c, G, Q, ⟨hx, hb, hml, hown, hWm, hT, ⟨hr1, hr2, hr3, hr4⟩, -, -⟩, rfl⟩ := hX
  intro H locs ls hW hS hL
  obtain ⟨⟨y1, y2, y3, y4⟩, y5, y6⟩ := hY
  have hq0 : ev_v (gB G) (.ref q) = .ref (gB G + q) := by
    simp only [ev_v, ev_rf]; rw [if_neg hq]
  rw [ev_stk, List.map_cons, hq0]
  refine ev_after (ret := none) (va_runI (b := gB G + q) (As := vs.map (ev_v (gB G))) (rest := st.map (ev_v (gB G))) (n := n) (mc := N2) (ms := NS2) (maxL := mL) (bytes := bs) (Ts := []) ⟨hx, hb, hml, hown, fun w h => by cases h⟩ (hM l G hT d2 (Nat.le_refl _))
    ⟨⟨rfl, rfl, by show d2 + 1 ≤ R.frames; omega, by show 8 + (mL + 11) + 100 * d2 ≤ R.locals; omega, ev_pay hT hWm ⟨y1, y2, y3, y4⟩, List.mem_cons_self, ev_word hT hWm y1 rfl args, ev_word hT hWm y2 rfl args, ⟨y3.1, y3.2.1⟩, fun sig h => by have h2 := y3.2.2; rw [h] at h2; exact (Option.some.inj h2).symm, ev_word hT hWm hl rfl args⟩, y6, ev_word hT hWm y5 rfl args⟩
    ⟨ev_blind, fun U hU hWU => ⟨by rw [List.map_cons, hq0], State.WarmedH.trans hWm hWU, by rw [hU]; exact hW⟩⟩ rfl (by rw [List.length_map]; exact hn) hL.1 rfl (lv_room (ev_cat_le hst _)) hdg ⟨by rw [hr3]; exact hC.1, by rw [hr4]; exact hC.2⟩) hS (fun H1 locs1 hW1 hS1 => ?_)
  exact kk H1 locs1 ls (ev_sm.W ⟨rfl, rfl, rfl, rfl⟩ hW1) hS1 hL
/-- of a nest mate's private constructor -/
theorem ev_callIN (hX : ev_X own cc nL d N NS ini F) (hY : ev_YI y bs mL n) {host : String} (hl : Cond.methodLinkNest own idx y host ∈ lw_tbl) (hM : ev_M d2 N2 NS2 y bs mL none (.ref q :: vs) S D S2 r) (hd2 : d2 + 1 ≤ d) (hq : ¬ q = 0) (hn : vs.length = n) (hst : ev_cat st = true) (hdg : decode cc pc = .ok (.invokespecial idx, 3)) (hC : sC S + N2 ≤ N ∧ sA S + NS2 ≤ NS)
    (kk : F (ev_add S2 S N2 NS2) r.2 (pc + 3) lv st) : F S D pc lv (vs.reverse ++ .ref q :: st) := by
  obtain ⟨p, l, e, R, s, m, args, below, meth, c, G, Q, ⟨hx, hb, hml, hown, hWm, hT, ⟨hr1, hr2, hr3, hr4⟩, -, -⟩, rfl⟩ := hX
  intro H locs ls hW hS hL
  obtain ⟨⟨y1, y2, y3, y4⟩, y5, y6⟩ := hY
  have hq0 : ev_v (gB G) (.ref q) = .ref (gB G + q) := by
    simp only [ev_v, ev_rf]; rw [if_neg hq]
  rw [ev_stk, List.map_cons, hq0]
  refine ev_after (ret := none) (va_runIN (host := host) (b := gB G + q) (As := vs.map (ev_v (gB G))) (rest := st.map (ev_v (gB G))) (n := n) (mc := N2) (ms := NS2) (maxL := mL) (bytes := bs) (Ts := []) ⟨hx, hb, hml, hown, fun w h => by cases h⟩ (hM l G hT d2 (Nat.le_refl _))
    ⟨⟨⟨rfl, rfl, by show d2 + 1 ≤ R.frames; omega, by show 8 + (mL + 11) + 100 * d2 ≤ R.locals; omega, ev_pay hT hWm ⟨y1, y2, y3, y4⟩, List.mem_cons_self⟩, ev_word hT hWm y1 rfl args, ev_word hT hWm y2 rfl args, ⟨y3.1, y3.2.1⟩, fun sig h => by have h2 := y3.2.2; rw [h] at h2; exact (Option.some.inj h2).symm, va_Nw.use rfl (ev_nestM hT hWm hl)⟩, y6, ev_word hT hWm y5 rfl args⟩
    ⟨ev_blind, fun U hU hWU => ⟨by rw [List.map_cons, hq0], State.WarmedH.trans hWm hWU, by rw [hU]; exact hW⟩⟩ rfl (by rw [List.length_map]; exact hn) hL.1 rfl (lv_room (ev_cat_le hst _)) hdg ⟨by rw [hr3]; exact hC.1, by rw [hr4]; exact hC.2⟩) hS (fun H1 locs1 hW1 hS1 => ?_)
  exact kk H1 locs1 ls (ev_sm.W ⟨rfl, rfl, rfl, rfl⟩ hW1) hS1 hL
end Calls2
