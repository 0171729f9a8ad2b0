/-- a field written: the picture behind it holds the value w there, all else as it was -/
theorem ev_W_fld {G : ev_G} {S S2 : ev_S} {D D2 : ev_D} {H H1 : Heap} {q ci i : Nat} {rc : vw_C} {w : Value} (hW : ev_W G S D H) (hq : sK S q = ci + 3) (hr : vwCl[ci]? = some rc) (hz : H1.size = H.size) (ho : ∀ a, a ≠ gB G + q → H1[a]? = H[a]?)
    (hn : t_OB (gB G + q) ((gD G).1 ci) rc.2.2 ((gD G).2 ci) H1 (updV (ev_fv (gB G) S D ci q) i w))
    (e1 : sZ S2 = sZ S) (e2 : sK S2 = sK S) (e3 : sL S2 = sL S) (e4 : ∀ k, k ≠ q → sE S2 k = sE S k) (e5 : ∀ k, k ≠ q → D2 k = D k) (e6 : ∀ j, updV (ev_fv (gB G) S D ci q) i w j = ev_fv (gB G) S2 D2 ci q j) : ev_W G S2 D2 H1 := by
  refine ⟨by rw [hz, e1]; exact hW.1, fun k hk => ?_, fun a ha => ?_⟩
  · obtain ⟨h1, h2, h3⟩ := hW.2.1 k (by rw [← e2]; exact hk)
    refine ⟨h1, by rw [e1]; exact h2, ?_⟩
    by_cases hkq : k = q
    · subst hkq
      refine ⟨fun z => ?_, fun z => ?_, fun _ => ⟨rc, ?_, ?_⟩⟩
      · rw [e2] at z; omega
      · rw [e2] at z; omega
      · rw [e2, hq, Nat.add_sub_cancel]; exact hr
      · rw [e2, hq, Nat.add_sub_cancel]
        exact hn.to fun j _ => e6 j
    · exact ev_at_kept h3 (ho _ (by omega)) (by rw [e2]) (by rw [e3]) (e4 k hkq) (e5 k hkq)
  · exact (ho a (by have := (hW.2.1 q (by omega)).1; omega)).trans (hW.2.2 a ha)
/-- the value of a field's type -/
def ev_fitv (ty : FieldType) (w : Value) : Bool := match ty, w with
  | .int, .int _ => true
  | .object _, .ref _ => true
  | .array _, .ref _ => true
  | _, _ => false
theorem ev_fitv_s {ty : FieldType} {w : Value} (h : ev_fitv ty w = true) (b : Nat) : narrow ty (ev_v b w) = ev_v b w ∧ fits ty (ev_v b w) = true := by
  cases ty <;> cases w <;> first
    | (cases h; done)
    | exact ⟨rfl, rfl⟩
    | (simp only [ev_v, ev_rf]; split <;> exact ⟨rfl, rfl⟩)
def ev_pS (S : ev_S) (q i : Nat) (w : Value) : ev_S := match w with
  | .ref v => ev_sE S q i v
  | _ => S
def ev_pD (D : ev_D) (q i : Nat) (w : Value) : ev_D := match w with
  | .int x => ev_up D q i x
  | _ => D
theorem ev_pSD {b : Nat} {S : ev_S} {D : ev_D} {ci q i : Nat} {w : Value} (h : ev_fitv (ev_ft ci i) w = true) : sZ (ev_pS S q i w) = sZ S ∧ sK (ev_pS S q i w) = sK S ∧ sL (ev_pS S q i w) = sL S ∧ (∀ k, k ≠ q → sE (ev_pS S q i w) k = sE S k) ∧ (∀ k, k ≠ q → ev_pD D q i w k = D k) ∧ (∀ j, updV (ev_fv b S D ci q) i (ev_v b w) j = ev_fv b (ev_pS S q i w) (ev_pD D q i w) ci q j) ∧ sC (ev_pS S q i w) = sC S ∧ sA (ev_pS S q i w) = sA S := by
  cases w with
  | int x =>
    refine ⟨rfl, rfl, rfl, fun _ _ => rfl, fun k hk => ev_up_ne D i x hk, fun j => ?_, rfl, rfl⟩
    simp only [updV, ev_fv, ev_pS, ev_pD, ev_up_self, upd, ev_v]
    by_cases hj : j = i
    · subst hj
      cases hty : ev_ft ci j <;> rw [hty] at h <;> first | (cases h; done) | simp [ev_isr]
    · simp [hj]
  | ref v =>
    refine ⟨rfl, rfl, rfl, fun k hk => va_up_ne _ _ hk, fun _ _ => rfl, fun j => ?_, rfl, rfl⟩
    simp only [updV, ev_fv, ev_pS, ev_pD, ev_sE, sE, va_up_self, ev_v]
    by_cases hj : j = i
    · subst hj
      cases hty : ev_ft ci j <;> rw [hty] at h <;> first | (cases h; done) | simp [ev_isr, va_up_self]
    · rw [if_neg hj, va_up_ne _ _ hj]
  | _ => cases hty : ev_ft ci i <;> rw [hty] at h <;> cases h
section Alloc2
variable {own : String} {cc : ByteArray} {nL d N NS : Nat} {ini : Bool} {S : ev_S} {F : ev_Fr} {D : ev_D} {pc : Nat} {lv : ev_V} {st : List Value}
/-- a field that isn't final -/
theorem ev_putR (hX : ev_X own cc nL d N NS ini F) {q ci i idx : Nat} {w : Value} {rc : vw_C} (hq : sK S q = ci + 3) (hr : vwCl[ci]? = some rc) (hi : i < rc.2.2) (hlk : Cond.fieldLink own idx (rc.2.1 i).1 (rc.2.1 i).2.1 (rc.2.1 i).2.2.1 ∈ lw_tbl) (hfin : (rc.2.1 i).2.2.2 = false) (hw : ev_fitv (ev_ft ci i) w = true) (hdg : decode cc pc = .ok (.putfield idx, 3))
    (kk : F (ev_pS S q i w) (ev_pD D q i w) (pc + 3) lv st) : F S D pc lv (w :: .ref q :: st) := by
  obtain ⟨p, l, e, R, s, m, args, below, meth, cd, G, Q, ⟨hx, hb, hml, hown, hWm, hT, ⟨hr1, hr2, hr3, hr4⟩, -, hsz⟩, rfl⟩ := hX
  intro H locs ls hW hS hL
  obtain ⟨h1, h2, h3⟩ := hW.2.1 q (by omega)
  obtain ⟨r0, a1, cell, q1, q2, q3, q4⟩ := h3.2.2 (by omega)
  rw [hq, Nat.add_sub_cancel] at a1 q2 q4
  cases a1.symm.trans hr
  obtain ⟨-, cu, ct, cn⟩ := ev_cls_of hr
  have hts := ev_uw cu hT hWm args
  have hap := va_apart (own := own) (D := gD G) (tys := [(gI G, .int), (gT G, .object "DeafBells$Tower")]) hts (fun _ h => h) (ev_ft ci) ct cn (ev_K hT hWm) hr
  obtain ⟨hSl, hfc, kC, hkC, hkind⟩ := (ev_K hT hWm).1 ci _ hr
  obtain ⟨cf, kf, fi, f, hif, hsl⟩ := hSl i hi
  have hlay := hts _ (u_in_lay hi)
  unfold u_lay at hlay
  rw [if_neg (by rw [hfin]; decide)] at hlay
  have hst := (u_facts hfc hkC (u_lays hts (fun _ h => h) hi) hif).1
  obtain ⟨hn, hfit⟩ := ev_fitv_s hw (gB G)
  have h6 := u_store hfc hkC hkind hlay hif (ct i hi) hn hfit
  obtain ⟨e1, e2, e3, e4, e5, e6, e7, e8⟩ := ev_pSD (b := gB G) (S := S) (D := D) (q := q) hw
  have hq0 : ev_v (gB G) (.ref q) = .ref (gB G + q) := by
    simp only [ev_v, ev_rf]; rw [if_neg (by omega)]
  rw [List.map_cons, List.map_cons, hq0]
  refine W.putK hx hb (f := f) ⟨hown, ev_word hT hWm hlk rfl args, ⟨_, _, _, hif⟩, hst⟩ (by rw [q2]; exact h6) q1 q3 (by rw [hsl]; exact k2_hasslot (q4 i hi)) rfl rfl hdg fun H' f1 f2 f3 => ?_
  rw [hsl] at f1 ⊢
  have hk := kk H' _ ls (ev_W_fld hW hq hr f2 f3 ⟨_, f1, q2, q3, t_set q4 hap hi _⟩ e1 e2 e3 e4 e5 e6) (hS.put (k := (gD G).2 ci i) f2 f3 (by omega)) hL
  rw [e7, e8] at hk
  exact hk
/-- a final field, in its own class's constructor -/
theorem ev_putF (hX : ev_X own cc nL d N NS true F) {q ci i idx : Nat} {w : Value} {rc : vw_C} (hq : sK S q = ci + 3) (hr : vwCl[ci]? = some rc) (hi : i < rc.2.2) (hlk : Cond.fieldLink own idx (rc.2.1 i).1 (rc.2.1 i).2.1 (rc.2.1 i).2.2.1 ∈ lw_tbl) (hfin : (rc.2.1 i).2.2.2 = true) (hdecl : (rc.2.1 i).1 = own) (hw : ev_fitv (ev_ft ci i) w = true) (hdg : decode cc pc = .ok (.putfield idx, 3))
    (kk : F (ev_pS S q i w) (ev_pD D q i w) (pc + 3) lv st) : F S D pc lv (w :: .ref q :: st) := by
  obtain ⟨p, l, e, R, s, m, args, below, meth, cd, G, Q, ⟨hx, hb, hml, hown, hWm, hT, ⟨hr1, hr2, hr3, hr4⟩, hini, hsz⟩, rfl⟩ := hX
  intro H locs ls hW hS hL
  obtain ⟨h1, h2, h3⟩ := hW.2.1 q (by omega)
  obtain ⟨r0, a1, cell, q1, q2, q3, q4⟩ := h3.2.2 (by omega)
  rw [hq, Nat.add_sub_cancel] at a1 q2 q4
  cases a1.symm.trans hr
  obtain ⟨-, cu, ct, cn⟩ := ev_cls_of hr
  have hts := ev_uw cu hT hWm args
  have hap := va_apart (own := own) (D := gD G) (tys := [(gI G, .int), (gT G, .object "DeafBells$Tower")]) hts (fun _ h => h) (ev_ft ci) ct cn (ev_K hT hWm) hr
  obtain ⟨hSl, hfc, kC, hkC, hkind⟩ := (ev_K hT hWm).1 ci _ hr
  obtain ⟨cf, kf, fi, f, hif, hsl⟩ := hSl i hi
  have hlay := hts _ (u_in_lay hi)
  unfold u_lay at hlay
  rw [if_pos hfin] at hlay
  have hst := (u_facts hfc hkC (u_lays hts (fun _ h => h) hi) hif).1
  have hcf : m.cls = cf := by
    obtain ⟨_, _, c', _, _, _, -, -, hf', -, -, -, hown2, -⟩ := Cond.laysFinal_spec hlay
    have z1 : c' = cf := by have := hif.symm.trans hf'; simp at this; exact this.1.symm
    rw [hdecl] at hown2
    rw [← z1]; exact Option.some.inj (hown.symm.trans hown2)
  obtain ⟨hn, hfit⟩ := ev_fitv_s hw (gB G)
  have h6 := u_fits hfc hkC hkind (Or.inr hlay) hif (ct i hi) hn hfit
  obtain ⟨e1, e2, e3, e4, e5, e6, e7, e8⟩ := ev_pSD (b := gB G) (S := S) (D := D) (q := q) hw
  have hq0 : ev_v (gB G) (.ref q) = .ref (gB G + q) := by
    simp only [ev_v, ev_rf]; rw [if_neg (by omega)]
  rw [List.map_cons, List.map_cons, hq0]
  refine W.putFinK hx hb hown (ev_word hT hWm hlk rfl args) hif hst hcf (hini rfl) (by rw [q2]; exact h6) q1 q3 (by rw [hsl]; exact k2_hasslot (q4 i hi)) rfl rfl hdg fun H' f1 f2 f3 => ?_
  rw [hsl] at f1 ⊢
  have hk := kk H' _ ls (ev_W_fld hW hq hr f2 f3 ⟨_, f1, q2, q3, t_set q4 hap hi _⟩ e1 e2 e3 e4 e5 e6) (hS.put (k := (gD G).2 ci i) f2 f3 (by omega)) hL
  rw [e7, e8] at hk
  exact hk
/-- a tower into the row of towers -/
theorem ev_aast (hX : ev_X own cc nL d N NS ini F) {q v : Nat} {j : Int32} (hq : sK S q = 2) (hv : sK S v = 12) (hin : ev_in j (sL S q) = true) (hdg : decode cc pc = .ok (.aastore, 1))
    (kk : F (ev_sE S q j.toNatClampNeg v) D (pc + 1) lv st) : F S D pc lv (.ref v :: .int j :: .ref q :: st) := by
  obtain ⟨p, l, e, R, s, m, args, below, meth, cd, G, Q, ⟨hx, hb, hml, hown, hWm, hT, ⟨hr1, hr2, hr3, hr4⟩, -, hsz⟩, rfl⟩ := hX
  intro H locs ls hW hS hL
  obtain ⟨h1, h2, h3⟩ := hW.2.1 q (by omega)
  have hc := h3.2.1 hq
  obtain ⟨v1, v2, v3⟩ := hW.2.1 v (by omega)
  obtain ⟨r0, a1, cell, q1, q2, q3, q4⟩ := v3.2.2 (by omega)
  rw [hv] at a1 q2
  have hvp := ev_in_vp hin
  have hlt : j.toNatClampNeg < sL S q := Nat.not_le.mp fun q => hvp (Or.inr q)
  have h0 : ¬ j < 0 := fun q => hvp (Or.inl q)
  have hr9 : vwCl[9]? = some (RX9, TX9, 14) := rfl
  obtain ⟨hSl, hfc, kC, hkC, hkind⟩ := (ev_K hT hWm).1 9 _ hr9
  obtain ⟨kA, comp, k1, k2, k3, -⟩ := ((ev_K hT hWm).2 1 _ rfl).2
  have hcomp : comp = (gD G).1 9 := Option.some.inj (k3.symm.trans hfc)
  subst hcomp
  have hq0 : ev_v (gB G) (.ref q) = .ref (gB G + q) := by
    simp only [ev_v, ev_rf]; rw [if_neg (by omega)]
  have hv0 : ev_v (gB G) (.ref v) = .ref (gB G + v) := by
    simp only [ev_v, ev_rf]; rw [if_neg (by omega)]
  rw [List.map_cons, List.map_cons, List.map_cons, hq0, hv0]
  refine W.aast hx hb (cv := cell) (kv := kC) hc (fun _ z => by cases z) (fun z => by cases z) k1 k2 rfl hkC ⟨h0, by rw [arrV_size]; exact hlt⟩ q1 (fun z y => by rw [q3] at y; cases y) (by rw [q2]; exact hkC) (by rw [q2]; exact va_asg _ _) rfl rfl hdg fun H1 e1 z1 oq0 => ?_
  have oq : ∀ a : Nat, a ≠ gB G + q → H1[a]? = H[a]? := oq0
  refine kk H1 _ ls ⟨by rw [z1]; exact hW.1, fun k hk => ?_, fun a ha => (oq a (by omega)).trans (hW.2.2 a ha)⟩ (hS.put z1 oq (by omega)) hL
  obtain ⟨b1, b2, b3⟩ := hW.2.1 k hk
  refine ⟨b1, b2, ?_⟩
  by_cases hkq : k = q
  · subst hkq
    refine ⟨fun z => ?_, fun _ => ?_, fun z => ?_⟩
    · exact absurd (hq.symm.trans z) (by decide)
    · rw [e1, arrV_store]
      congr 2
      funext i
      simp only [ev_sE, sE, va_up_self, updV]
      by_cases hi : i = j.toNatClampNeg
      · subst hi
        rw [if_pos rfl, va_up_self]
        simp only [ev_rf]; rw [if_neg (by omega)]
      · rw [if_neg hi, va_up_ne _ _ hi]
    · have z' : 3 ≤ sK S k := z
      rw [hq] at z'
      exact absurd z' (by decide)
  · exact ev_at_kept b3 (oq _ (by omega)) rfl rfl (va_up_ne _ _ hkq) rfl
/-- System.arraycopy between two int arrays -/
theorem ev_copy (hX : ev_X own cc nL d N NS ini F) {idx q1 q2 : Nat} {sp dp n : Int32} (hl : Cond.methodLink own idx arraycopyName ∈ lw_tbl) (hna : Cond.native arraycopyName ∈ lw_tbl) (hsa : Cond.static arraycopyName ∈ lw_tbl) (hia : Cond.initialized "java/lang/System" ∈ lw_tbl) (h1 : sK S q1 = 1) (h2 : sK S q2 = 1) (hg : ev_cpg q1 q2 (sL S q1) (sL S q2) sp dp n = true) (hd : 1 ≤ d) (hst : ev_cat st = true) (hdg : decode cc pc = .ok (.invokestatic idx, 3))
    (kk : F S (ev_cpD D q1 q2 sp.toNatClampNeg dp.toNatClampNeg n.toNatClampNeg) (pc + 3) lv st) : F S D pc lv (.int n :: .int dp :: .ref q2 :: .int sp :: .ref q1 :: st) := by
  obtain ⟨p, l, e, R, s, m, args, below, meth, cd, G, Q, ⟨hx, hb, hml, hown, hWm, hT, ⟨hr1, hr2, hr3, hr4⟩, -, hsz⟩, rfl⟩ := hX
  intro H locs ls hW hS hL
  simp only [ev_cpg, Bool.and_eq_true, Bool.not_eq_true', decide_eq_false_iff_not, decide_eq_true_eq] at hg
  obtain ⟨g1, g2, g3, g4, g5, g6⟩ := hg
  obtain ⟨a1, a2, a3⟩ := hW.2.1 q1 (by omega)
  obtain ⟨b1, b2, b3⟩ := hW.2.1 q2 (by omega)
  have c1 := a3.1 h1
  have c2 := b3.1 h2
  have hq1 : ev_v (gB G) (.ref q1) = .ref (gB G + q1) := by
    simp only [ev_v, ev_rf]; rw [if_neg (by omega)]
  have hq2 : ev_v (gB G) (.ref q2) = .ref (gB G + q2) := by
    simp only [ev_v, ev_rf]; rw [if_neg (by omega)]
  have hcat := ev_cat_le hst (gB G)
  have hnf : nativeFrameWords "java/lang/System" "arraycopy" 5 ≤ 60 := by decide
  have nn : ∀ z : Int32, ¬ z < 0 → z.toInt = (z.toNatClampNeg : Int) := by
    intro z hz
    have h0 : (0 : Int) ≤ z.toInt := by simpa using Int32.le_iff_toInt_le.mp (Int32.not_lt.mp hz)
    show z.toInt = ((z.toInt.toNat : Nat) : Int)
    omega
  obtain ⟨-, k0, hk0, cm0, hkk0⟩ := ((ev_K hT hWm).2 0 _ rfl).1 (sL S q1) (fun j => .int (D q1 j))
  obtain ⟨-, k1, hk1, cm1, hkk1⟩ := ((ev_K hT hWm).2 0 _ rfl).1 (sL S q2) (fun j => .int (D q2 j))
  simp only [List.map_cons, hq1, hq2]
  intro T hTH X
  obtain ⟨vm', X', step⟩ := X.arraycopy hx hown (ev_word hT hWm hl rfl args) (ev_word hT hWm hna rfl args) (ev_word hT hWm hsa rfl args) (ev_word hT hWm hia rfl args) (src := gB G + q1) (dst := gB G + q2) (cs := arrV (gI G) (sL S q1) (fun j => .int (D q1 j))) (cd := arrV (gI G) (sL S q2) (fun j => .int (D q2 j))) (srcPos := sp) (destPos := dp) (n := n) (by rw [hTH]; exact c1) (by rw [hTH]; exact c2)
    (fun _ h => by cases h) (fun _ h => by cases h) (fun h => by cases h) (fun h => by cases h) hk0 hk1 hkk0 hkk1 (by simp [refKind]) g1 g2 g3
    (by rw [nn sp g1, nn n g3, arrV_size]; omega)
    (by rw [nn dp g2, nn n g3, arrV_size]; omega)
    (fun vm₁ _ i hi => by
      have ee : (arrV (gI G) (sL S q1) (fun j => .int (D q1 j))).slots.getD (sp.toNatClampNeg + i) .null = .int (D q1 (sp.toNatClampNeg + i)) := by
        rw [Array.getD_eq_getD_getElem?, arrV_read _ _ (by omega)]
        rfl
      refine ⟨?_, ?_⟩
      · rw [ee]
        rfl
      · rw [ee]
        exact trivial)
    (g := F0 m pc ls (.int n :: .int dp :: .ref (gB G + q2) :: .int sp :: .ref (gB G + q1) :: st.map (ev_v (gB G)))) rfl (by rw [hml]; exact hL.1) (rest := st.map (ev_v (gB G))) rfl (by rw [hb]; exact hdg) (by omega) (by show 2 * 0 + _ + _ ≤ _; omega)
  have ec : copied (arrV (gI G) (sL S q1) (fun j => .int (D q1 j))) (arrV (gI G) (sL S q2) (fun j => .int (D q2 j))) sp dp n = arrV (gI G) (sL S q2) (fun j => .int (va_cpy (D q1) (D q2) sp.toNatClampNeg dp.toNatClampNeg n.toNatClampNeg j)) := va_copied (fun z => .int z) _ _ _ _ g4
  rw [ec] at X' step
  have hlt : gB G + q2 < H.size := (Array.getElem?_eq_some_iff.mp c2).1
  generalize hcell : arrV (gI G) (sL S q2) (fun j => .int (va_cpy (D q1) (D q2) sp.toNatClampNeg dp.toNatClampNeg n.toNatClampNeg j)) = nc at X' step
  have hheap : ((T.setVm vm').setCell (gB G + q2) nc).heap = H.setIfInBounds (gB G + q2) nc := by rw [← hTH]; rfl
  have oq : ∀ q : Nat, q ≠ gB G + q2 → (H.setIfInBounds (gB G + q2) nc)[q]? = H[q]? := fun q hq => by simp [Array.getElem?_setIfInBounds, Ne.symm hq]
  have on : (H.setIfInBounds (gB G + q2) nc)[gB G + q2]? = some nc := by simp [Array.getElem?_setIfInBounds, hlt]
  obtain ⟨t, t1, t2⟩ := kk _ _ ls (ev_W_set (D' := ev_cpD D q1 q2 sp.toNatClampNeg dp.toNatClampNeg n.toNatClampNeg) (q := q2) hW (by omega) (by simp) oq (fun k hk => va_up_ne _ _ hk) ⟨fun _ => by rw [on, ← hcell]; simp only [ev_cpD, va_up_self], fun z => by omega, fun z => by omega⟩)
    ⟨by simp; exact hS.1, fun q e1 e2 => by rw [oq q (by omega)]; exact hS.2.1 q e1 e2, fun q hq => by
      rcases List.mem_append.mp hq with h | h
      · exact hS.2.2 q h
      · obtain ⟨z, -, hz⟩ := List.mem_map.mp h
        rw [← hz]
        show gB G < gB G + q2
        omega⟩ hL _ hheap X'
  exact ⟨t, step t t1, t2⟩
end Alloc2
