/-! ===== the law's start ===== -/
theorem ins_of {c : Nat} {r : vw_C} (h : vwCl[c]? = some r) : Cond.instantiable r.1 r.2.2 ∈ lw_tbl := by
  have hc : c < 13 := (List.getElem?_eq_some_iff.mp h).1
  match c, hc, h with
  | 0, _, h => cases h; exact (mt_1 (List.mem_of_getElem? (i := 122) rfl))
  | 1, _, h => cases h; exact (mt_1 (List.mem_of_getElem? (i := 149) rfl))
  | 2, _, h => cases h; exact (mt_2 (List.mem_of_getElem? (i := 46) rfl))
  | 3, _, h => cases h; exact (mt_2 (List.mem_of_getElem? (i := 142) rfl))
  | 4, _, h => cases h; exact (mt_2 (List.mem_of_getElem? (i := 69) rfl))
  | 5, _, h => cases h; exact (mt_2 (List.mem_of_getElem? (i := 118) rfl))
  | 6, _, h => cases h; exact (mt_1 (List.mem_of_getElem? (i := 181) rfl))
  | 7, _, h => cases h; exact (mt_1 (List.mem_of_getElem? (i := 143) rfl))
  | 8, _, h => cases h; exact (mt_1 (List.mem_of_getElem? (i := 226) rfl))
  | 9, _, h => cases h; exact (mt_1 (List.mem_of_getElem? (i := 38) rfl))
  | 10, _, h => cases h; exact (mt_1 (List.mem_of_getElem? (i := 32) rfl))
  | 11, _, h => cases h; exact (mt_1 (List.mem_of_getElem? (i := 24) rfl))
  | 12, _, h => cases h; exact (mt_6 (List.mem_of_getElem? (i := 30) rfl))
theorem sw_cl : Cond.classLink RL 7 RX11 ∈ lw_tbl := (mt_1 (List.mem_of_getElem? (i := 23) rfl))
theorem sw_cm : Cond.classLink RL 10 RX12 ∈ lw_tbl := (mt_6 (List.mem_of_getElem? (i := 29) rfl))
theorem sw_i1 : Cond.initialized RX11 ∈ lw_tbl := (mt_1 (List.mem_of_getElem? (i := 1) rfl))
theorem sw_i2 : Cond.initialized RX12 ∈ lw_tbl := (mt_1 (List.mem_of_getElem? (i := 15) rfl))
theorem sw_m1 : Cond.methodLink RL 9 yX11_init ∈ lw_tbl := (mt_1 (List.mem_of_getElem? (i := 25) rfl))
theorem sw_m2 : Cond.methodLink RL 12 yX12_init ∈ lw_tbl := (mt_6 (List.mem_of_getElem? (i := 31) rfl))
section StartW
variable {p : Program} {l : Launch} {e : Env} {R : Room} {s : State} {m : MethodId} {args : Array Value} {below : List Frame} {meth : Method} {c : Code} {G : ev_G} {Q : State → Prop}
theorem ev_newW {own : String} {cc : ByteArray} {pc ca sa : Nat} (hx : p.tables.exec = Jvm.exec) (hb : c.code = cc) (hown : s.vm.findClass own = some m.cls) (hWm : (gS G).WarmedH s.vm) (hT : ev_T G) {idx ci : Nat} {rc : vw_C} (hr : vwCl[ci]? = some rc) (hcl : Cond.classLink own idx rc.1 ∈ lw_tbl) (hi : Cond.instantiable rc.1 rc.2.2 ∈ lw_tbl) (hin : Cond.initialized rc.1 ∈ lw_tbl) (hdg : decode cc pc = .ok (.new idx, 3)) (hN : ca + 1 ≤ R.cells ∧ sa + rc.2.2 ≤ R.slots) {S : ev_S} {D : ev_D} {H : Heap} {locs : List Loc} {ls : Array Slot} {st : List Value} (hW : ev_W G S D H) (hS : va_S (fun q => gB G < q) s.heap H locs)
    (kk : ∀ H1, ev_W G (ev_nO ci rc.2.2 S) (ev_0 D (sZ S + 1)) H1 → va_S (fun q => gB G < q) s.heap H1 locs → W p l e R s m args below meth c H1 locs (ca + 1) (sa + rc.2.2) Q (F0 m (pc + 3) ls (.ref (gB G + (sZ S + 1)) :: st))) : W p l e R s m args below meth c H locs ca sa Q (F0 m pc ls st) := by
  obtain ⟨-, cu, ct, cn⟩ := ev_cls_of hr
  have hKn := (ev_K hT hWm).1 ci _ hr
  have hs := hW.1
  refine W.newcK hx hb hown (ev_word hT hWm hcl rfl args) (ev_word hT hWm hi rfl args) (ev_word hT hWm hin rfl args) rfl hdg hN.1 hN.2 hKn.2.1 rfl fun H1 kC hkC e1 z1 o1 => ?_
  have hk := kk H1 (ev_W_new hW z1 o1 rfl (fun k hk => ⟨va_up_ne _ _ hk, rfl, va_up_ne _ _ hk, va_up_ne _ _ hk⟩) ⟨fun z => ?_, fun z => ?_, fun _ => ⟨rc, ?_, ?_⟩⟩) ⟨Nat.le_trans hS.1 (by omega), fun x h1 h2 => (o1 x (Nat.lt_of_lt_of_le h1 hS.1)).trans (hS.2.1 x h1 h2), hS.2.2⟩
  · rw [show gB G + (sZ S + 1) = H.size by omega] at hk
    exact hk
  · simp only [ev_nO, sK, va_up_self] at z; omega
  · simp only [ev_nO, sK, va_up_self] at z; omega
  · simp only [ev_nO, sK, va_up_self, Nat.add_sub_cancel]; exact hr
  · have hb1 := u_born (ev_ft ci) (ev_uw cu hT hWm args) (fun _ h => h) hKn hkC e1 ct
    simp only [ev_nO, sK, va_up_self, Nat.add_sub_cancel]
    rw [show gB G + (sZ S + 1) = H.size by omega]
    exact hb1.to fun i _ => ev_default _ _ _ ci _ i (by simp only [sE, va_up_self]) (by simp only [ev_0, va_up_self])
theorem ev_initW {own : String} {cc : ByteArray} {nL d d2 N2 NS2 mL idx q ca sa pc : Nat} {y : MethodName} {bs : ByteArray} {rest : List Value} {S S2 : ev_S} {D : ev_D} {r : Int32 × ev_D} (hx : p.tables.exec = Jvm.exec) (hb : c.code = cc) (hml : c.maxLocals = nL) (hown : s.vm.findClass own = some m.cls) (hWm : (gS G).WarmedH s.vm) (hT : ev_T G) (hr1 : d ≤ R.frames) (hr2 : 100 * d ≤ R.locals)
    (hY : ev_YI y bs mL 0) (hl : Cond.methodLink own idx y ∈ lw_tbl) (hM : ev_M d2 N2 NS2 y bs mL none [.ref q] S D S2 r) (hd2 : d2 + 1 ≤ d) (hq : ¬ q = 0) (hst : (rest.map fun v => v.category).sum ≤ 8) (hdg : decode cc pc = .ok (.invokespecial idx, 3)) (hC : ca + N2 ≤ R.cells ∧ sa + NS2 ≤ R.slots)
    {H : Heap} {locs : List Loc} {ls : Array Slot} (hls : ls.size = nL) (hW : ev_W G S D H) (hS : va_S (fun q => gB G < q) s.heap H locs)
    (kk : ∀ (H1 : Heap) (locs1 : List Loc), ev_W G S2 r.2 H1 → va_S (fun q => gB G < q) s.heap H1 locs1 → W p l e R s m args below meth c H1 locs1 (ca + N2) (sa + NS2) Q (F0 m (pc + 3) ls rest)) : W p l e R s m args below meth c H locs ca sa Q (F0 m pc ls (.ref (gB G + q) :: rest)) := by
  obtain ⟨⟨y1, y2, y3, y4⟩, y5, y6⟩ := hY
  have hq0 : ev_v (gB G) (.ref q) = .ref (gB G + q) := by
    simp only [ev_v, ev_rf]; rw [if_neg hq]
  exact ev_after (ret := none) (va_runI (b := gB G + q) (As := []) (rest := rest) (n := 0) (mc := N2) (ms := NS2) (maxL := mL) (bytes := bs) (Ts := []) ⟨hx, hb, hml, hown, fun w h => by cases h⟩ (hM l G hT d2 (Nat.le_refl _))
    ⟨⟨rfl, rfl, by show d2 + 1 ≤ R.frames; omega, by show 8 + (mL + 11) + 100 * d2 ≤ R.locals; omega, ev_pay hT hWm ⟨y1, y2, y3, y4⟩, List.mem_cons_self, ev_word hT hWm y1 rfl args, ev_word hT hWm y2 rfl args, ⟨y3.1, y3.2.1⟩, fun sig h => by have h2 := y3.2.2; rw [h] at h2; exact (Option.some.inj h2).symm, ev_word hT hWm hl rfl args⟩, y6, ev_word hT hWm y5 rfl args⟩
    ⟨ev_blind, fun U hU hWU => ⟨by rw [List.map_cons, hq0]; rfl, State.WarmedH.trans hWm hWU, by rw [hU]; exact hW⟩⟩ rfl rfl hls rfl (lv_room hst) hdg hC) hS kk
end StartW
set_option maxHeartbeats 4000000 in
set_option maxRecDepth 100000 in
theorem whole_start {p : Program} {e : Env} {s : State} {m : MethodId} {below : List Frame} {meth : Method} {c : Code} (l : Launch) (hflags : l.flags = flags0) {b L : Nat} {xs : Nat → Int32} (hL : L ≤ 3072) (C0 : lw_At p s m meth c b L xs) : W p l e room_1 s m #[Value.ref b] below meth c s.heap [] 0 0 (lw_Z below #[Value.ref b] s) (entryFrame m ([Value.ref b] : List Value).toArray 4) := by
  obtain ⟨hx, hb, hr, hml, hown0, hts, hX, hbl, hlocks, hgv⟩ := id C0
  have hown : s.vm.findClass RL = some m.cls := hown0
  have hcls : ∀ k : Nat, ∃ (cC : ClassId) (iS : Nat → Nat), ∀ q, vwCl[k]? = some q → u_Kn s q.1 q.2.1 q.2.2 cC iS := by
    intro k
    cases h1 : vwCl[k]? with
    | none => exact ⟨m.cls, fun _ => 0, fun q h => by cases h⟩
    | some r =>
      obtain ⟨-, cu, -, -⟩ := ev_cls_of h1
      obtain ⟨cC, iS, h⟩ := u_known (C := r.1) (T := r.2.1) (N := r.2.2) (n := r.2.2) hts (fun w hw => (cu w hw).1) (hts _ (ins_of h1))
      exact ⟨cC, iS, fun q h2 => by cases h2; exact h⟩
  obtain ⟨cI, kI, compI, i1, i2, i3⟩ := Cond.arrayClass_spec (hts _ ac_int)
  obtain ⟨compT, cT, kT, t1, -, t3, t4, t5⟩ := Cond.arrayOver_spec (hts _ ac_tow)
  obtain ⟨G, hG, hGS, hsz⟩ : ∃ G : ev_G, ev_T G ∧ gS G = s ∧ s.heap.size = gB G + 1 := by
    refine ⟨((fun k => (hcls k).choose, fun k => (hcls k).choose_spec.choose), cI, cT, s.heap.size - 1, s), ⟨⟨fun k q h => (hcls k).choose_spec.choose_spec q h, fun k q h => ?_⟩, ⟨#[Value.ref b], hts, hgv⟩, ?_⟩, rfl, ?_⟩
    · match k, h with
      | 0, h => cases h; exact ⟨fun n z => ⟨fun k h => (by cases h), kI, i2, compI, i3⟩, i1⟩
      | 1, h => cases h; exact ⟨fun n z => ⟨fun k h => (by cases h), kT, t3, compT, t4⟩, kT, compT, t3, t4, t1, t5⟩
      | k + 2, h => simp at h
    · show s.heap.size = s.heap.size - 1 + 1
      omega
    · show s.heap.size = s.heap.size - 1 + 1
      omega
  have hWm : (gS G).WarmedH s.vm := by rw [hGS]; exact State.WarmedH.refl _
  have hW0 : ev_W G st_S0 st_D0 s.heap := ⟨hsz, fun k hk => absurd rfl hk, fun q _ => by rw [hGS]⟩
  have hS0 : va_S (fun q => gB G < q) s.heap s.heap [] := va_S.rf
  have hl := lv_entry ([.ref b]) (n := 4) (Nat.le_of_ble_eq_true rfl)
  rw [lg_entry_eq]
  generalize (lg_sl ([.ref b]) ++ List.replicate (4 - (lg_sl ([.ref b])).length) Slot.unset).toArray = ls at hl ⊢
  have hl : lv_has ls 4 [(0, .ref b)] := hl
  obtain ⟨v2, S2, D2, e2, hInv, hc1, hc2, hC2, hA2⟩ := st_Inv
  obtain ⟨v1, S1, D1, e1⟩ : ∃ v1 S1 D1, st_R1 = some (v1, S1, D1) := by
    cases h : st_R1 with
    | none =>
      unfold st_R2 at e2
      rw [h] at e2
      cases e2
    | some x => exact ⟨x.1, x.2.1, x.2.2, rfl⟩
  have ok1 := st_ok1
  rw [e1] at ok1
  have e2' : gX12_init [.ref 132] (ev_nO 12 67 S1) (ev_0 D1 132) = some (v2, S2, D2) := by
    unfold st_R2 at e2
    rw [e1] at e2
    exact e2
  obtain ⟨hz1, hC1, hA1⟩ : sZ S1 = 131 ∧ sC S1 ≤ 200 ∧ sA S1 ≤ 6000 := by
    have h3 : ((sZ S1 == 131) && (decide (sC S1 ≤ 200) && decide (sA S1 ≤ 6000))) = true := ok1
    rw [Bool.and_eq_true, Bool.and_eq_true] at h3
    exact ⟨by simpa using h3.1, of_decide_eq_true h3.2.1, of_decide_eq_true h3.2.2⟩
  have M1 := mgX11_init e1
  have M2 := mgX12_init e2'
  refine ev_newW (G := G) (ci := 11) (rc := (RX11, TX11, 7)) hx hb hown hWm hG rfl sw_cl (ins_of (c := 11) rfl) sw_i1 dL_0 ⟨by decide, by decide⟩ hW0 hS0 (fun H1 hW1 hS1 => ?_)
  refine lv_dup hx hb dL_3 rfl ?_
  refine ev_initW (d := 5) (rest := [.ref (gB G + 1)]) hx hb hml hown hWm hG (by decide) (by decide) YcX11_init sw_m1 M1 (by decide) (show ¬ 1 = 0 by decide) (show (1 : Nat) ≤ 8 by decide) dL_4 ⟨by show 0 + 1 + sC S1 ≤ 600000; omega, by show 0 + 7 + sA S1 ≤ 7302250; omega⟩ hl.1 hW1 hS1 (fun H2 locs2 hW2 hS2 => ?_)
  refine lv_astore_n (lv' := [(1, .ref (gB G + 1)), (0, .ref b)]) hx hb dL_7 rfl hl (by decide) rfl (fun ls hl => ?_)
  refine ev_newW (G := G) (ci := 12) (rc := (RX12, TX12, 67)) hx hb hown hWm hG rfl sw_cm (ins_of (c := 12) rfl) sw_i2 dL_8 ⟨by show 0 + 1 + sC S1 + 1 ≤ 600000; omega, by show 0 + 7 + sA S1 + 67 ≤ 7302250; omega⟩ hW2 hS2 (fun H3 hW3 hS3 => ?_)
  rw [hz1] at hW3 ⊢
  refine lv_dup hx hb dL_11 rfl ?_
  refine ev_initW (d := 5) (rest := [.ref (gB G + 132)]) hx hb hml hown hWm hG (by decide) (by decide) YcX12_init sw_m2 M2 (by decide) (show ¬ 132 = 0 by decide) (show (1 : Nat) ≤ 8 by decide) dL_12 ⟨by show 0 + 1 + sC S1 + 1 + sC S2 ≤ 600000; omega, by show 0 + 7 + sA S1 + 67 + sA S2 ≤ 7302250; omega⟩ hl.1 hW3 hS3 (fun H4 locs4 hW4 hS4 => ?_)
  refine lv_astore_n (lv' := [(2, .ref (gB G + 132)), (1, .ref (gB G + 1)), (0, .ref b)]) hx hb dL_15 rfl hl (by decide) rfl (fun ls hl => ?_)
  refine lv_iconst (v := nI 0) hx hb dL_16 (by decide) ?_
  refine lv_istore_n (lv' := [(3, .int (nI 0)), (2, .ref (gB G + 132)), (1, .ref (gB G + 1)), (0, .ref b)]) hx hb dL_17 rfl hl (by decide) rfl (fun ls hl => ?_)
  have C : lc_X p s m c G b L xs below meth := ⟨hx, hb, hml, hown, hWm, hG, hX, hbl, hsz, hL⟩
  exact lc_loop C hr hlocks lc_text_ok (L / 6 + 1) 0 0 _ _ (Nat.zero_le _) (by omega) (.inl ⟨rfl, show 0 + 1 + sC S1 + 1 + sC S2 ≤ 450 by omega, show 0 + 7 + sA S1 + 67 + sA S2 ≤ 30000 by omega⟩) D2 H4 locs4 ls hInv (st_c_s hc1 hc2 rfl rfl rfl rfl hW4) hS4 (lv_sub hl [3, 2, 1, 0] rfl)
