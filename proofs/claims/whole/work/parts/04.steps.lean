abbrev ev_Fr : Type := ev_S → ev_D → Nat → ev_V → List Value → Prop
def ev_F (p : Program) (l : Launch) (e : Env) (R : Room) (s : State) (m : MethodId) (args : Array Value) (below : List Frame) (meth : Method) (c : Code) (G : ev_G) (nL : Nat) (Q : State → Prop) : ev_Fr := fun S D pc lv st =>
  ∀ (H : Heap) (locs : List Loc) (ls : Array Slot), ev_W G S D H → va_S (fun q => gB G < q) s.heap H locs → ev_L (gB G) ls nL lv → W p l e R s m args below meth c H locs (sC S) (sA S) Q (F0 m pc ls (st.map (ev_v (gB G))))
theorem ev_pairs {b : Nat} {ls : Array Slot} {nL : Nat} {lv : ev_V} (h : ev_L b ls nL lv) (i : Nat) {v : Value} {ls' : Array Slot} (h' : lv_has ls' nL ((i, ev_v b v) :: ((List.range lv.length).filterMap (fun j => match lv[j]? with
    | some (some w) => some (j, ev_v b w)
    | _ => none)).filter (fun q => !(q.1 == i) && !(q.1 + 1 == i && q.2.category == 2)))) (hc : (ev_v b v).category = 1) : ev_L b ls' nL (lv.set i (some v)) := by
  refine ⟨h'.1, h'.2.1, fun j w hj => ?_⟩
  by_cases hij : j = i
  · subst hij
    have hl : j < lv.length := by
      have := (List.getElem?_eq_some_iff.mp hj).1
      simpa using this
    rw [List.getElem?_set_self hl] at hj
    have e : v = w := by simpa using hj
    subst e
    exact ⟨h'.2.2 _ List.mem_cons_self, hc⟩
  · rw [List.getElem?_set_ne (Ne.symm hij)] at hj
    have hw := h.2.2 j w hj
    refine ⟨h'.2.2 (j, ev_v b w) (List.mem_cons_of_mem _ (List.mem_filter.mpr ⟨List.mem_filterMap.mpr ⟨j, List.mem_range.mpr (List.getElem?_eq_some_iff.mp hj).1, by rw [hj]⟩, ?_⟩)), hw.2⟩
    simp [hij, hw.2]
theorem ev_haslist {b : Nat} {ls : Array Slot} {nL : Nat} {lv : ev_V} (h : ev_L b ls nL lv) : lv_has ls nL ((List.range lv.length).filterMap (fun j => match lv[j]? with
    | some (some w) => some (j, ev_v b w)
    | _ => none)) := by
  refine ⟨h.1, h.2.1, fun q hq => ?_⟩
  obtain ⟨j, -, hj⟩ := List.mem_filterMap.mp hq
  split at hj
  · rename_i w hw
    cases hj
    exact (h.2.2 j w hw).1
  · cases hj
section Steps1
variable {p : Program} {l : Launch} {e : Env} {R : Room} {s : State} {m : MethodId} {args : Array Value} {below : List Frame} {meth : Method} {c : Code} {G : ev_G} {nL : Nat} {Q : State → Prop} {cc : ByteArray} {own : String} {S : ev_S} {D D' : ev_D} {pc : Nat} {lv lv' : ev_V} {st st' : List Value}
theorem ev_r_get {ci i index : Nat} {q : Nat} {r : List Value} {v : Value} (hx : p.tables.exec = Jvm.exec) (hb : c.code = cc) (hown : s.vm.findClass own = some m.cls) (hT : ev_T G) (hWm : (gS G).WarmedH s.vm) (hq : sK S q = ci + 3)
    {rc : vw_C} (hr : vwCl[ci]? = some rc) (hi : i < rc.2.2) (hlk : Cond.fieldLink own index (rc.2.1 i).1 (rc.2.1 i).2.1 (rc.2.1 i).2.2.1 ∈ lw_tbl) (hv : ev_fv (gB G) S D ci q i = v) (hdg : decode cc pc = .ok (.getfield index, 3))
    {H : Heap} {locs : List Loc} {ls : Array Slot} (hW : ev_W G S D H)
    (kk : W p l e R s m args below meth c H locs (sC S) (sA S) Q (F0 m (pc + 3) ls (v :: r))) : W p l e R s m args below meth c H locs (sC S) (sA S) Q (F0 m pc ls (ev_v (gB G) (.ref q) :: r)) := by
  obtain ⟨h1, h2, h3⟩ := hW.2.1 q (by omega)
  obtain ⟨r0, a1, cell, q1, q2, q3, q4⟩ := h3.2.2 (by omega)
  rw [hq, Nat.add_sub_cancel] at a1 q2 q4
  cases a1.symm.trans hr
  obtain ⟨-, cu, ct, cn⟩ := ev_cls_of hr
  have hKn := (ev_K hT hWm).1 ci _ hr
  obtain ⟨hSl, hfc, kC, hkC, hkind⟩ := hKn
  obtain ⟨cf, kf, fi, f, hif, hsl⟩ := hSl i hi
  have hq0 : ev_v (gB G) (.ref q) = .ref (gB G + q) := by
    simp only [ev_v, ev_rf]; rw [if_neg (by omega)]
  rw [hq0]
  refine W.getf hx hb hown (ev_word hT hWm hlk rfl args) hif (u_facts hfc hkC (u_lays (ev_uw cu hT hWm args) (fun _ h => h) hi) hif).1 q1 (by rw [q3]; exact fun h => by cases h) (v := v) ?_ rfl rfl hdg kk
  rw [hsl, q4 i hi, hv]
theorem ev_r_put {ci i index : Nat} {q : Nat} {r : List Value} {x : Int32} (hx : p.tables.exec = Jvm.exec) (hb : c.code = cc) (hown : s.vm.findClass own = some m.cls) (hT : ev_T G) (hWm : (gS G).WarmedH s.vm) (hq : sK S q = ci + 3)
    {rc : vw_C} (hr : vwCl[ci]? = some rc) (hi : i < rc.2.2) (hlk : Cond.fieldLink own index (rc.2.1 i).1 (rc.2.1 i).2.1 (rc.2.1 i).2.2.1 ∈ lw_tbl) (hfin : (rc.2.1 i).2.2.2 = false) (hty : ev_ft ci i = .int ∨ (ev_ft ci i = .boolean ∧ (x = 0 ∨ x = 1))) (hdg : decode cc pc = .ok (.putfield index, 3))
    {H : Heap} {locs : List Loc} {ls : Array Slot} (hW : ev_W G S D H) (hS : va_S (fun q => gB G < q) s.heap H locs)
    (kk : ∀ (H1 : Heap) (locs1 : List Loc), ev_W G S (ev_up D q i x) H1 → va_S (fun q => gB G < q) s.heap H1 locs1 → W p l e R s m args below meth c H1 locs1 (sC S) (sA S) Q (F0 m (pc + 3) ls r)) : W p l e R s m args below meth c H locs (sC S) (sA S) Q (F0 m pc ls (.int x :: ev_v (gB G) (.ref q) :: r)) := by
  obtain ⟨h1, h2, h3⟩ := hW.2.1 q (by omega)
  have h3' := h3
  obtain ⟨r0, a1, cell, q1, q2, q3, q4⟩ := h3.2.2 (by omega)
  rw [hq, Nat.add_sub_cancel] at a1 q2 q4
  cases a1.symm.trans hr
  obtain ⟨-, cu, ct, cn⟩ := ev_cls_of hr
  have hts := ev_uw cu hT hWm args
  have hap := va_apart (own := own) (D := gD G) (tys := [(gI G, .int), (gT G, .object "DeafBells$Tower")]) hts (fun _ h => h) (ev_ft ci) ct cn (ev_K hT hWm) hr
  have hKn := (ev_K hT hWm).1 ci _ hr
  obtain ⟨hSl, hfc, kC, hkC, hkind⟩ := hKn
  obtain ⟨cf, kf, fi, f, hif, hsl⟩ := hSl i hi
  have hlay := hts _ (u_in_lay hi)
  unfold u_lay at hlay
  rw [if_neg (by rw [hfin]; decide)] at hlay
  have hst := (u_facts hfc hkC (u_lays hts (fun _ h => h) hi) hif).1
  have hn : narrow (ev_ft ci i) (.int x) = .int x := by
    rcases hty with h | ⟨h, rfl | rfl⟩ <;> rw [h] <;> rfl
  have hfit : fits (ev_ft ci i) (.int x) = true := by
    rcases hty with h | ⟨h, rfl | rfl⟩ <;> rw [h] <;> rfl
  have hisr : ev_isr (ev_ft ci i) = false := by
    rcases hty with h | ⟨h, -⟩ <;> rw [h] <;> rfl
  have h6 := u_store hfc hkC hkind hlay hif (ct i hi) hn hfit
  have hq0 : ev_v (gB G) (.ref q) = .ref (gB G + q) := by
    simp only [ev_v, ev_rf]; rw [if_neg (by omega)]
  rw [hq0]
  refine W.putK hx hb (f := f) ⟨hown, ev_word hT hWm hlk rfl args, ⟨_, _, _, hif⟩, hst⟩ (by rw [q2]; exact h6) q1 q3 (by rw [hsl]; exact k2_hasslot (q4 i hi)) rfl rfl hdg fun H' e1 e2 e3 => ?_
  rw [hsl] at e1 ⊢
  refine kk H' _ (ev_W_set hW (by omega) e2 e3 (fun k hk => ev_up_ne D i x hk) ⟨fun z => by omega, fun z => by omega, fun _ => ⟨rc, by rw [hq, Nat.add_sub_cancel]; exact hr, ?_⟩⟩) (hS.put e2 e3 (by omega))
  rw [hq, Nat.add_sub_cancel]
  refine t_OB.to (V := updV (ev_fv (gB G) S D ci q) i (.int x)) ⟨_, e1, q2, q3, t_set q4 hap hi _⟩ fun j _ => ?_
  simp only [updV, ev_fv, ev_up_self, upd]
  by_cases hj : j = i
  · subst hj; simp [hisr]
  · simp [hj]
theorem ev_r_ald {q : Nat} {r : List Value} {j : Int32} (hx : p.tables.exec = Jvm.exec) (hb : c.code = cc) (hT : ev_T G) (hWm : (gS G).WarmedH s.vm) (hq : sK S q = 1) (hin : ev_in j (sL S q) = true) (hdg : decode cc pc = .ok (.iaload, 1))
    {H : Heap} {locs : List Loc} {ls : Array Slot} (hW : ev_W G S D H)
    (kk : W p l e R s m args below meth c H locs (sC S) (sA S) Q (F0 m (pc + 1) ls (.int (D q j.toNatClampNeg) :: r))) : W p l e R s m args below meth c H locs (sC S) (sA S) Q (F0 m pc ls (.int j :: ev_v (gB G) (.ref q) :: r)) := by
  obtain ⟨h1, h2, h3⟩ := hW.2.1 q (by omega)
  have hc := h3.1 hq
  have hv := ev_in_vp hin
  have hlt : j.toNatClampNeg < sL S q := Nat.not_le.mp fun q => hv (Or.inr q)
  have hq0 : ev_v (gB G) (.ref q) = .ref (gB G + q) := by
    simp only [ev_v, ev_rf]; rw [if_neg (by omega)]
  rw [hq0]
  exact W.iald (v := .int (D q j.toNatClampNeg)) hx hb hc (((ev_K hT hWm).2 0 _ rfl).1 _ (fun j => .int (D q j))) (fun q => by cases q) (by show ¬ (j < 0 ∨ (arrV _ _ _).slots.size ≤ _); rw [arrV_size]; exact hv) (by show (arrV _ _ _).slots[_]? = _; rw [arrV_read _ _ hlt]) rfl rfl hdg kk
theorem ev_r_ast {q : Nat} {r : List Value} {j x : Int32} (hx : p.tables.exec = Jvm.exec) (hb : c.code = cc) (hT : ev_T G) (hWm : (gS G).WarmedH s.vm) (hq : sK S q = 1) (hin : ev_in j (sL S q) = true) (hdg : decode cc pc = .ok (.iastore, 1))
    {H : Heap} {locs : List Loc} {ls : Array Slot} (hW : ev_W G S D H) (hS : va_S (fun q => gB G < q) s.heap H locs)
    (kk : ∀ (H1 : Heap) (locs1 : List Loc), ev_W G S (ev_up D q j.toNatClampNeg x) H1 → va_S (fun q => gB G < q) s.heap H1 locs1 → W p l e R s m args below meth c H1 locs1 (sC S) (sA S) Q (F0 m (pc + 1) ls r)) : W p l e R s m args below meth c H locs (sC S) (sA S) Q (F0 m pc ls (.int x :: .int j :: ev_v (gB G) (.ref q) :: r)) := by
  obtain ⟨h1, h2, h3⟩ := hW.2.1 q (by omega)
  have hc := h3.1 hq
  have hv := ev_in_vp hin
  have hq0 : ev_v (gB G) (.ref q) = .ref (gB G + q) := by
    simp only [ev_v, ev_rf]; rw [if_neg (by omega)]
  rw [hq0]
  refine W.iast hx hb hc (((ev_K hT hWm).2 0 _ rfl).1 _ (fun j => .int (D q j))) (fun q => by cases q) (by show ¬ (j < 0 ∨ (arrV _ _ _).slots.size ≤ _); rw [arrV_size]; exact hv) rfl rfl hdg fun H1 e z oq => ?_
  refine kk H1 _ (ev_W_set hW (by omega) z oq (fun k hk => ev_up_ne D _ x hk) ⟨fun _ => ?_, fun z => by omega, fun z => by omega⟩) (hS.put z oq (by omega))
  rw [e, arrV_store]
  congr 2
  funext i
  simp only [ev_up_self, updV, upd]
  split <;> rfl
theorem ev_r_len {q : Nat} {r : List Value} (hx : p.tables.exec = Jvm.exec) (hb : c.code = cc) (hT : ev_T G) (hWm : (gS G).WarmedH s.vm) (hq : sK S q = 1) (hdg : decode cc pc = .ok (.arraylength, 1))
    {H : Heap} {locs : List Loc} {ls : Array Slot} (hW : ev_W G S D H)
    (kk : W p l e R s m args below meth c H locs (sC S) (sA S) Q (F0 m (pc + 1) ls (.int (Int32.ofNat (sL S q)) :: r))) : W p l e R s m args below meth c H locs (sC S) (sA S) Q (F0 m pc ls (ev_v (gB G) (.ref q) :: r)) := by
  obtain ⟨h1, h2, h3⟩ := hW.2.1 q (by omega)
  have hc := h3.1 hq
  have hq0 : ev_v (gB G) (.ref q) = .ref (gB G + q) := by
    simp only [ev_v, ev_rf]; rw [if_neg (by omega)]
  rw [hq0]
  exact W.alen hx hb hc (((ev_K hT hWm).2 0 _ rfl).1 _ (fun j => .int (D q j))) (by rw [arrV_size]) rfl rfl hdg kk
end Steps1
/-! ===== one plain instruction ===== -/
section Steps2
variable {p : Program} {l : Launch} {e : Env} {R : Room} {s : State} {m : MethodId} {args : Array Value} {below : List Frame} {meth : Method} {c : Code} {G : ev_G} {nL : Nat} {Q : State → Prop} {cc : ByteArray} {own : String} {S : ev_S} {D D' : ev_D} {pc : Nat} {lv lv' : ev_V} {st st' : List Value} {lk : ev_LK}
theorem ev_lk_f (hlk : ev_lkok own lk) {i ci sl : Nat} (h : lk.1.contains (i, ci, sl) = true) : ∃ rc : vw_C, vwCl[ci]? = some rc ∧ sl < rc.2.2 ∧ Cond.fieldLink own i (rc.2.1 sl).1 (rc.2.1 sl).2.1 (rc.2.1 sl).2.2.1 ∈ lw_tbl := by
  have hm : (i, ci, sl) ∈ lk.1 := by simpa using h
  have h1 := List.all_eq_true.mp hlk.2.1 _ hm
  have h2 := (hlk.1 _ (List.mem_map.mpr ⟨_, hm, rfl⟩)).1
  unfold ev_lkB at h1
  unfold ev_link at h2
  split at h1
  · rename_i r hr
    dsimp only at hr h1
    rw [show vwCl[((i, ci, sl) : Nat × Nat × Nat).2.1]? = some r from hr] at h2
    exact ⟨r, hr, by simpa using h1, h2⟩
  · cases h1
theorem ev_lk_c (hlk : ev_lkok own lk) {i : Nat} {v : Int32} (h : lk.2.contains (i, v) = true) : Cond.constant own i v ∈ lw_tbl := by
  have hm : (i, v) ∈ lk.2 := by simpa using h
  exact (hlk.2.2 _ (List.mem_map.mpr ⟨_, hm, rfl⟩)).1
theorem ev_step1 (hx : p.tables.exec = Jvm.exec) (hb : c.code = cc) (hown : s.vm.findClass own = some m.cls) (hT : ev_T G) (hWm : (gS G).WarmedH s.vm) (hlk : ev_lkok own lk) (it : ev_I) (hd : decode cc pc = .ok (it.1, it.2.1)) (hok : ev_ok1 lk nL it = true) (hsx : ev_sx S it lv st D = some (true, lv', st', D'))
    (kk : ev_F p l e R s m args below meth c G nL Q S D' (pc + it.2.1) lv' st') : ev_F p l e R s m args below meth c G nL Q S D pc lv st := by
  obtain ⟨i, len, ci, sl, v⟩ := it
  intro H locs ls hW hS hL
  cases i
  case iconst n =>
    simp only [ev_ok1, Bool.and_eq_true, decide_eq_true_eq] at hok
    obtain ⟨rfl, hv⟩ := hok
    cases hsx
    exact lv_iconst hx hb hd hv (kk H locs ls hW hS hL)
  case bipush n =>
    simp only [ev_ok1, Bool.and_eq_true, decide_eq_true_eq] at hok
    obtain ⟨rfl, hv⟩ := hok
    cases hsx
    exact lv_bipush hx hb hd hv (kk H locs ls hW hS hL)
  case sipush n =>
    simp only [ev_ok1, Bool.and_eq_true, decide_eq_true_eq] at hok
    obtain ⟨rfl, hv⟩ := hok
    cases hsx
    exact lv_sipush hx hb hd hv (kk H locs ls hW hS hL)
  case ldc n =>
    simp only [ev_ok1, Bool.and_eq_true, decide_eq_true_eq] at hok
    obtain ⟨rfl, hv⟩ := hok
    cases hsx
    exact lv_ldc hx hb hown (ev_word hT hWm (ev_lk_c hlk hv) rfl args) hd (kk H locs ls hW hS hL)
  case ldc_w n =>
    simp only [ev_ok1, Bool.and_eq_true, decide_eq_true_eq] at hok
    obtain ⟨rfl, hv⟩ := hok
    cases hsx
    exact lv_ldcw hx hb hown (ev_word hT hWm (ev_lk_c hlk hv) rfl args) hd (kk H locs ls hW hS hL)
  case iload_n k =>
    simp only [ev_ok1, decide_eq_true_eq] at hok
    subst hok
    obtain ⟨x, h1, rfl, rfl, rfl⟩ := ev_ldi_s hsx
    exact lv_iload_n hx hb hd rfl (hL.2.2 _ _ h1).1 (kk H locs ls hW hS hL)
  case iload k =>
    simp only [ev_ok1, decide_eq_true_eq] at hok
    subst hok
    obtain ⟨x, h1, rfl, rfl, rfl⟩ := ev_ldi_s hsx
    exact lv_iload hx hb hd (hL.2.2 _ _ h1).1 (kk H locs ls hW hS hL)
  case aload_n k =>
    simp only [ev_ok1, decide_eq_true_eq] at hok
    subst hok
    obtain ⟨x, h1, rfl, rfl, rfl⟩ := ev_lda_s hsx
    have h2 := (hL.2.2 _ _ h1).1
    have h3 := kk H locs ls hW hS hL
    simp only [List.map_cons, ev_v, ev_rf] at h2 h3
    split at h2
    · rename_i hz
      rw [if_pos hz] at h3
      exact lv_aload_nN hx hb hd rfl h2 h3
    · rename_i hz
      rw [if_neg hz] at h3
      exact lv_aload_n hx hb hd rfl h2 h3
  case aload k =>
    simp only [ev_ok1, decide_eq_true_eq] at hok
    subst hok
    obtain ⟨x, h1, rfl, rfl, rfl⟩ := ev_lda_s hsx
    have h2 := (hL.2.2 _ _ h1).1
    have h3 := kk H locs ls hW hS hL
    simp only [List.map_cons, ev_v, ev_rf] at h2 h3
    split at h2
    · rename_i hz
      rw [if_pos hz] at h3
      exact lv_aloadN hx hb hd h2 h3
    · rename_i hz
      rw [if_neg hz] at h3
      exact lv_aload hx hb hd h2 h3
  case istore_n k =>
    simp only [ev_ok1, Bool.and_eq_true, decide_eq_true_eq] at hok
    obtain ⟨rfl, hn⟩ := hok
    obtain ⟨x, rfl, rfl, rfl⟩ := ev_sti_s hsx
    exact lv_istore_n hx hb hd rfl (ev_haslist hL) hn rfl (fun ls' h' => kk H locs ls' hW hS (ev_pairs hL k.val (v := .int x) h' rfl))
  case istore k =>
    simp only [ev_ok1, Bool.and_eq_true, decide_eq_true_eq] at hok
    obtain ⟨rfl, hn⟩ := hok
    obtain ⟨x, rfl, rfl, rfl⟩ := ev_sti_s hsx
    exact lv_istore hx hb hd (ev_haslist hL) hn rfl (fun ls' h' => kk H locs ls' hW hS (ev_pairs hL k (v := .int x) h' rfl))
  case astore_n k =>
    simp only [ev_ok1, Bool.and_eq_true, decide_eq_true_eq] at hok
    obtain ⟨rfl, hn⟩ := hok
    obtain ⟨x, rfl, rfl, rfl⟩ := ev_sta_s hsx
    have e0 := ev_cat_ref (gB G) x
    by_cases hz : x = 0
    · have e1 : ev_v (gB G) (.ref x) = .null := by simp [ev_v, ev_rf, hz]
      rw [List.map_cons, e1]
      exact lv_astore_nN hx hb hd rfl (ev_haslist hL) hn rfl (fun ls' h' => kk H locs ls' hW hS (ev_pairs hL k.val (v := .ref x) (by rw [e1]; exact h') e0))
    · have e1 : ev_v (gB G) (.ref x) = .ref (gB G + x) := by simp [ev_v, ev_rf, hz]
      rw [List.map_cons, e1]
      exact lv_astore_n hx hb hd rfl (ev_haslist hL) hn rfl (fun ls' h' => kk H locs ls' hW hS (ev_pairs hL k.val (v := .ref x) (by rw [e1]; exact h') e0))
  case astore k =>
    simp only [ev_ok1, Bool.and_eq_true, decide_eq_true_eq] at hok
    obtain ⟨rfl, hn⟩ := hok
    obtain ⟨x, rfl, rfl, rfl⟩ := ev_sta_s hsx
    have e0 := ev_cat_ref (gB G) x
    by_cases hz : x = 0
    · have e1 : ev_v (gB G) (.ref x) = .null := by simp [ev_v, ev_rf, hz]
      rw [List.map_cons, e1]
      exact lv_astoreN hx hb hd (ev_haslist hL) hn rfl (fun ls' h' => kk H locs ls' hW hS (ev_pairs hL k (v := .ref x) (by rw [e1]; exact h') e0))
    · have e1 : ev_v (gB G) (.ref x) = .ref (gB G + x) := by simp [ev_v, ev_rf, hz]
      rw [List.map_cons, e1]
      exact lv_astore hx hb hd (ev_haslist hL) hn rfl (fun ls' h' => kk H locs ls' hW hS (ev_pairs hL k (v := .ref x) (by rw [e1]; exact h') e0))
  case iinc k n =>
    simp only [ev_ok1, Bool.and_eq_true, decide_eq_true_eq] at hok
    obtain ⟨rfl, hv, hn⟩ := hok
    obtain ⟨x, h1, rfl, rfl, rfl⟩ := ev_inc_s hsx
    have hl := ev_haslist hL
    have hm : (k, Value.int x) ∈ ((List.range lv.length).filterMap (fun j => match lv[j]? with
        | some (some w) => some (j, ev_v (gB G) w)
        | _ => none)) := List.mem_filterMap.mpr ⟨k, List.mem_range.mpr (List.getElem?_eq_some_iff.mp h1).1, by rw [h1]; rfl⟩
    obtain ⟨n0, hn0⟩ := List.getElem?_of_mem hm
    exact lv_iinc (v := x + v) hx hb hd hl hn0 (by rw [hv]) hn rfl (fun ls' h' => kk H locs ls' hW hS (ev_pairs hL k (v := .int (x + v)) h' rfl))
  case getfield k =>
    simp only [ev_ok1, Bool.and_eq_true, decide_eq_true_eq] at hok
    obtain ⟨rfl, hv⟩ := hok
    obtain ⟨rc, hr, hi, hw⟩ := ev_lk_f hlk hv
    simp only [ev_sx, ev_get] at hsx
    split at hsx
    · rename_i q r
      split at hsx
      · rename_i hisr
        simp only [Option.some.injEq, Prod.mk.injEq, beq_iff_eq] at hsx
        obtain ⟨hq, rfl, rfl, rfl⟩ := hsx
        exact ev_r_get hx hb hown hT hWm hq hr hi hw (by simp only [ev_fv, hisr]; rfl) hd hW (kk H locs ls hW hS hL)
      · rename_i hisr
        simp only [Option.some.injEq, Prod.mk.injEq, beq_iff_eq] at hsx
        obtain ⟨hq, rfl, rfl, rfl⟩ := hsx
        exact ev_r_get hx hb hown hT hWm hq hr hi hw (by simp only [ev_fv, hisr]; rfl) hd hW (kk H locs ls hW hS hL)
    · cases hsx
  case putfield k =>
    simp only [ev_ok1, Bool.and_eq_true, decide_eq_true_eq] at hok
    obtain ⟨rfl, hv, hf⟩ := hok
    obtain ⟨rc, hr, hi, hw⟩ := ev_lk_f hlk hv
    rw [hr] at hf
    simp only [Bool.not_eq_true'] at hf
    simp only [ev_sx, ev_put] at hsx
    split at hsx
    · rename_i x q r
      split at hsx
      · rename_i hty
        simp only [Option.some.injEq, Prod.mk.injEq, beq_iff_eq] at hsx
        obtain ⟨hq, rfl, rfl, rfl⟩ := hsx
        exact ev_r_put hx hb hown hT hWm hq hr hi hw hf (Or.inl hty) hd hW hS (fun H1 locs1 hW1 hS1 => kk H1 locs1 ls hW1 hS1 hL)
      · rename_i hty
        simp only [Option.some.injEq, Prod.mk.injEq, Bool.and_eq_true, Bool.or_eq_true, beq_iff_eq] at hsx
        obtain ⟨⟨hq, hx01⟩, rfl, rfl, rfl⟩ := hsx
        exact ev_r_put hx hb hown hT hWm hq hr hi hw hf (Or.inr ⟨hty, hx01⟩) hd hW hS (fun H1 locs1 hW1 hS1 => kk H1 locs1 ls hW1 hS1 hL)
      · cases hsx
    · cases hsx
  case iaload =>
    simp only [ev_ok1, decide_eq_true_eq] at hok
    subst hok
    simp only [ev_sx, ev_ald] at hsx
    split at hsx
    · simp only [Option.some.injEq, Prod.mk.injEq, Bool.and_eq_true, beq_iff_eq] at hsx
      obtain ⟨⟨hq, hin⟩, rfl, rfl, rfl⟩ := hsx
      exact ev_r_ald hx hb hT hWm hq hin hd hW (kk H locs ls hW hS hL)
    · cases hsx
  case iastore =>
    simp only [ev_ok1, decide_eq_true_eq] at hok
    subst hok
    simp only [ev_sx, ev_ast] at hsx
    split at hsx
    · simp only [Option.some.injEq, Prod.mk.injEq, Bool.and_eq_true, beq_iff_eq] at hsx
      obtain ⟨⟨hq, hin⟩, rfl, rfl, rfl⟩ := hsx
      exact ev_r_ast hx hb hT hWm hq hin hd hW hS (fun H1 locs1 hW1 hS1 => kk H1 locs1 ls hW1 hS1 hL)
    · cases hsx
  case arraylength =>
    simp only [ev_ok1, decide_eq_true_eq] at hok
    subst hok
    simp only [ev_sx, ev_len] at hsx
    split at hsx
    · simp only [Option.some.injEq, Prod.mk.injEq, beq_iff_eq] at hsx
      obtain ⟨hq, rfl, rfl, rfl⟩ := hsx
      exact ev_r_len hx hb hT hWm hq hd hW (kk H locs ls hW hS hL)
    · cases hsx
  case iadd =>
    simp only [ev_ok1, decide_eq_true_eq] at hok
    subst hok
    obtain ⟨x, y, r, rfl, rfl, rfl, rfl⟩ := ev_b2_s hsx
    exact lv_iadd hx hb hd (kk H locs ls hW hS hL)
  case isub =>
    simp only [ev_ok1, decide_eq_true_eq] at hok
    subst hok
    obtain ⟨x, y, r, rfl, rfl, rfl, rfl⟩ := ev_b2_s hsx
    exact lv_isub hx hb hd (kk H locs ls hW hS hL)
  case imul =>
    simp only [ev_ok1, decide_eq_true_eq] at hok
    subst hok
    obtain ⟨x, y, r, rfl, rfl, rfl, rfl⟩ := ev_b2_s hsx
    exact lv_imul hx hb hd (kk H locs ls hW hS hL)
  case iand =>
    simp only [ev_ok1, decide_eq_true_eq] at hok
    subst hok
    obtain ⟨x, y, r, rfl, rfl, rfl, rfl⟩ := ev_b2_s hsx
    exact lv_iand hx hb hd (kk H locs ls hW hS hL)
  case ior =>
    simp only [ev_ok1, decide_eq_true_eq] at hok
    subst hok
    obtain ⟨x, y, r, rfl, rfl, rfl, rfl⟩ := ev_b2_s hsx
    exact lv_ior hx hb hd (kk H locs ls hW hS hL)
  case ixor =>
    simp only [ev_ok1, decide_eq_true_eq] at hok
    subst hok
    obtain ⟨x, y, r, rfl, rfl, rfl, rfl⟩ := ev_b2_s hsx
    exact lv_ixor hx hb hd (kk H locs ls hW hS hL)
  case ishl =>
    simp only [ev_ok1, decide_eq_true_eq] at hok
    subst hok
    obtain ⟨x, y, r, rfl, rfl, rfl, rfl⟩ := ev_b2_s hsx
    exact lv_ishl hx hb hd (kk H locs ls hW hS hL)
  case ishr =>
    simp only [ev_ok1, decide_eq_true_eq] at hok
    subst hok
    obtain ⟨x, y, r, rfl, rfl, rfl, rfl⟩ := ev_b2_s hsx
    exact lv_ishr hx hb hd (kk H locs ls hW hS hL)
  case iushr =>
    simp only [ev_ok1, decide_eq_true_eq] at hok
    subst hok
    obtain ⟨x, y, r, rfl, rfl, rfl, rfl⟩ := ev_b2_s hsx
    exact lv_iushr hx hb hd rfl (kk H locs ls hW hS hL)
  case idiv =>
    simp only [ev_ok1, decide_eq_true_eq] at hok
    subst hok
    obtain ⟨x, y, r, rfl, h0, rfl, rfl, rfl⟩ := ev_dv_s hsx
    exact lv_idiv hx hb hd h0 (kk H locs ls hW hS hL)
  case irem =>
    simp only [ev_ok1, decide_eq_true_eq] at hok
    subst hok
    obtain ⟨x, y, r, rfl, h0, rfl, rfl, rfl⟩ := ev_dv_s hsx
    exact lv_irem hx hb hd h0 (kk H locs ls hW hS hL)
  case ineg =>
    simp only [ev_ok1, decide_eq_true_eq] at hok
    subst hok
    obtain ⟨x, r, rfl, rfl, rfl, rfl⟩ := ev_un_s hsx
    exact lv_ineg hx hb hd (kk H locs ls hW hS hL)
  case i2c =>
    simp only [ev_ok1, decide_eq_true_eq] at hok
    subst hok
    obtain ⟨x, r, rfl, rfl, rfl, rfl⟩ := ev_un_s hsx
    exact lv_i2c hx hb hd rfl (kk H locs ls hW hS hL)
  case dup =>
    simp only [ev_ok1, decide_eq_true_eq] at hok
    subst hok
    simp only [ev_sx, ev_dup] at hsx
    split at hsx
    · cases hsx
      exact lv_dup hx hb hd rfl (kk H locs ls hW hS hL)
    · cases hsx
      exact lv_dup hx hb hd (ev_cat_ref _ _) (kk H locs ls hW hS hL)
    · cases hsx
  case dup2 =>
    simp only [ev_ok1, decide_eq_true_eq] at hok
    subst hok
    simp only [ev_sx, ev_du2] at hsx
    split at hsx
    · cases hsx
      exact lv_dup2_11 hx hb hd rfl (ev_cat_ref _ _) (kk H locs ls hW hS hL)
    · cases hsx
  case pop =>
    simp only [ev_ok1, decide_eq_true_eq] at hok
    subst hok
    simp only [ev_sx, ev_pop] at hsx
    split at hsx
    · cases hsx
      exact lv_pop hx hb hd rfl (kk H locs ls hW hS hL)
    · cases hsx
  all_goals (exact absurd hsx (by simp [ev_sx]))
theorem ev_blk0 (hx : p.tables.exec = Jvm.exec) (hb : c.code = cc) (hown : s.vm.findClass own = some m.cls) (hT : ev_T G) (hWm : (gS G).WarmedH s.vm) (hlk : ev_lkok own lk) : ∀ (is : List ev_I) (pc : Nat) (lv : ev_V) (st : List Value) (D : ev_D) (lv' : ev_V) (st' : List Value) (D' : ev_D), ev_chk cc lk nL pc is = true → ev_bk S is lv st D = some (true, lv', st', D') →
    ev_F p l e R s m args below meth c G nL Q S D' (pc + ev_lens is) lv' st' → ev_F p l e R s m args below meth c G nL Q S D pc lv st
  | [], pc, lv, st, D, lv', st', D', _, hbk, kk => by
    cases hbk
    exact kk
  | it :: r, pc, lv, st, D, lv', st', D', hc, hbk, kk => by
    simp only [ev_chk, Bool.and_eq_true, decide_eq_true_eq] at hc
    obtain ⟨h1, h2, h3⟩ := hc
    unfold ev_bk at hbk
    split at hbk
    · cases hbk
    · rename_i g1 lv1 st1 D1 hs
      split at hbk
      · cases hbk
      · rename_i g2 lv2 st2 D2 hr
        simp only [Option.some.injEq, Prod.mk.injEq, Bool.and_eq_true] at hbk
        obtain ⟨⟨rfl, rfl⟩, rfl, rfl, rfl⟩ := hbk
        refine ev_step1 hx hb hown hT hWm hlk it h1 h2 hs ?_
        refine ev_blk0 hx hb hown hT hWm hlk r _ _ _ _ _ _ _ h3 hr ?_
        rw [Nat.add_assoc]
        exact kk
end Steps2
