/-! ===== the law's body: a call at the machine's own frame, an int of the script ===== -/
section LawW
variable {p : Program} {l : Launch} {e : Env} {R : Room} {s : State} {m : MethodId} {args : Array Value} {below : List Frame} {meth : Method} {c : Code} {G : ev_G} {Q : State → Prop}
theorem ev_callW {own : String} {cc : ByteArray} {nL d d2 N2 NS2 mL n idx q ca sa pc : Nat} {y : MethodName} {bs : ByteArray} {ret : Option FieldType} {vs rest : List Value} {S S2 : ev_S} {D : ev_D} {r : Int32 × ev_D} (hx : p.tables.exec = Jvm.exec) (hb : c.code = cc) (hml : c.maxLocals = nL) (hown : s.vm.findClass own = some m.cls) (hWm : (gS G).WarmedH s.vm) (hT : ev_T G) (hr1 : d ≤ R.frames) (hr2 : 100 * d ≤ R.locals)
    (hY : ev_YV y bs mL ret n) (hl : Cond.methodLink own idx y ∈ lw_tbl) (hM : ev_M d2 N2 NS2 y bs mL ret (.ref q :: vs) S D S2 r) (hd2 : d2 + 1 ≤ d) (ci : Nat) (hq : sK S q = ci + 3) (hc : (vwCl[ci]?).map (fun x => x.1) = some y.cls) (hn : vs.length = n) (hst : (rest.map fun v => v.category).sum ≤ 8) (hdg : decode cc pc = .ok (.invokevirtual idx, 3)) (hC : ca + N2 ≤ R.cells ∧ sa + NS2 ≤ R.slots)
    {H : Heap} {locs : List Loc} {ls : Array Slot} (hls : ls.size = nL) (hW : ev_W G S D H) (hS : va_S (fun q => gB G < q) s.heap H locs)
    (kk : ∀ (H1 : Heap) (locs1 : List Loc), ev_W G S2 r.2 H1 → va_S (fun q => gB G < q) s.heap H1 locs1 → W p l e R s m args below meth c H1 locs1 (ca + N2) (sa + NS2) Q (F0 m (pc + 3) ls ((ev_rt ret r.1).toList ++ rest))) : W p l e R s m args below meth c H locs ca sa Q (F0 m pc ls ((vs.map (ev_v (gB G))).reverse ++ .ref (gB G + q) :: rest)) := by
  obtain ⟨⟨y1, y2, y3, y4⟩, y5, y6⟩ := hY
  obtain ⟨h1, h2, h3⟩ := hW.2.1 q (by omega)
  obtain ⟨r0, a1, cell, q1, q2, q3, q4⟩ := h3.2.2 (by omega)
  rw [hq, Nat.add_sub_cancel] at a1 q2
  have hcl : r0.1 = y.cls := by rw [a1] at hc; simpa using hc
  have hKn := (ev_K hT hWm).1 ci _ a1
  have hq0 : ev_v (gB G) (.ref q) = .ref (gB G + q) := by
    simp only [ev_v, ev_rf]; rw [if_neg (by omega)]
  have hfc : s.vm.findClass y.cls = some cell.cls := by rw [← hcl, q2]; exact hKn.2.1
  exact ev_after (va_runV (C := y.cls) (b := gB G + q) (As := vs.map (ev_v (gB G))) (rest := rest) (n := n) (mc := N2) (ms := NS2) (maxL := mL) (bytes := bs) (ret := ret) (Ts := []) ⟨hx, hb, hml, hown, fun w h => by cases h⟩ (hM l G hT d2 (Nat.le_refl _))
    ⟨⟨rfl, rfl, by show d2 + 1 ≤ R.frames; omega, by show 8 + (mL + 11) + 100 * d2 ≤ R.locals; omega, ev_pay hT hWm ⟨y1, y2, y3, y4⟩, List.mem_cons_self, ev_word hT hWm y1 rfl args, ev_word hT hWm y2 rfl args, ⟨y3.1, y3.2.1⟩, fun sig h => by have h2 := y3.2.2; rw [h] at h2; exact (Option.some.inj h2).symm, ev_word hT hWm hl rfl args⟩, ev_word hT hWm y5 rfl args, ev_word hT hWm y6 rfl args⟩
    ⟨ev_blind, ⟨cell, q1, by rw [q3]; rfl, hfc⟩, fun U hU hWU => ⟨by rw [List.map_cons, hq0], State.WarmedH.trans hWm hWU, by rw [hU]; exact hW⟩⟩ rfl (by rw [List.length_map]; exact hn) hls rfl (lv_room hst) hdg hC) hS kk
end LawW
def R_law : String := "DeafBellsLaw"
def lw_P (b : Addr) (xs : List Int32) (args : Array Value) (s : State) : Prop := args = #[.ref b] ∧ s.IntsAt b xs ∧ xs.length ≤ 3072 ∧ (Jvm.Cond.and given_1 narrow_1).before args s = true
def lw_Q (_ : Array Value) (s : State) (o : Outcome) (t : State) : Prop := o = .returned (some (.int 1)) ∧ Framed s o t [] 600000 7302250
def lw_Z (below : List Frame) (a : Array Value) (s : State) : State → Prop := fun t => ∃ o, t.status = .running ∧ Ended t below o ∧ lw_Q a s o t
/-- the law's own end, with 1 on the stack, nothing written that was there before, its room as the claim has it -/
theorem lw_ret {p : Program} {l : Launch} {e : Env} {s : State} {m : MethodId} {below : List Frame} {meth : Method} {c : Code} {b : Nat} (hx : p.tables.exec = Jvm.exec) (hb : c.code = code) (hr : meth.sig.returnType = ret) (hlocks : meth.locks = false) {pc : Nat} {H : Heap} {ls : Array Slot} (hdg : decode code pc = .ok (.ireturn, 1)) : W p l e room_1 s m #[Value.ref b] below meth c H [] 600000 7302250 (lw_Z below #[Value.ref b] s) (F0 m pc ls [.int 1]) := by
  intro T hT X
  obtain ⟨fs, hret, hrun, hended, hW, hframe⟩ := X.leave (v := some (.int 1)) (hlocks := hlocks) (fun h => by rw [hr] at h; cases h)
  have hmeth' : T.vm.method? m = some meth := X.method'
  refine ⟨T.setFrames fs, ?_, .returned (some (.int 1)), hrun, hended, rfl, ⟨_, rfl⟩, hW, hframe⟩
  jvm_step X.here [X.here.top, hx, hb, hdg, hmeth', hr, ret, narrow_b1]
  (try refine ⟨rfl, ?_⟩); (try refine ⟨rfl, ?_⟩)
  first | (intro acts; rw [hret _ acts rfl rfl rfl]) | rw [hret _ _ rfl rfl rfl]
  exact Steps.refl _
/-- what holds at the law's entry: the machine, the code, the tables' words (any of lw_tbl by 'hts w (by decide +kernel)'), the script of L ints xs at the cell b, what the Statement gives of the start (any of its parts by flat_of_before) -/
def lw_At (p : Program) (s : State) (m : MethodId) (meth : Method) (c : Code) (b L : Nat) (xs : Nat → Int32) : Prop :=
  p.tables.exec = Jvm.exec ∧ c.code = code ∧ meth.sig.returnType = ret ∧ c.maxLocals = 4 ∧ s.vm.findClass R_law = some m.cls ∧ (∀ w ∈ lw_tbl, w.before #[Value.ref b] s = true) ∧ va_X b L xs s s.heap ∧ b < s.heap.size ∧ meth.locks = false ∧ (Jvm.Cond.and given_1 narrow_1).before #[Value.ref b] s = true
/-- the law's frame, fixed: all that its steps need -/
def lc_X (p : Program) (s : State) (m : MethodId) (c : Code) (G : ev_G) (b L : Nat) (xs : Nat → Int32) (below : List Frame) (meth : Method) : Prop := p.tables.exec = Jvm.exec ∧ c.code = code ∧ c.maxLocals = 4 ∧ s.vm.findClass RL = some m.cls ∧ (gS G).WarmedH s.vm ∧ ev_T G ∧ va_X b L xs s s.heap ∧ b < s.heap.size ∧ s.heap.size = gB G + 1 ∧ L ≤ 3072
/-- the law at pc with the picture (kp, D), i ints read -/
def lc_N (Inv : Nat → ev_D → Prop) (p : Program) (l : Launch) (e : Env) (s : State) (m : MethodId) (below : List Frame) (meth : Method) (c : Code) (G : ev_G) (b i kp ca sa pc : Nat) : Prop :=
  ∀ (D : ev_D) (H : Heap) (locs : List Loc) (ls : Array Slot), Inv kp D → ev_W G (sh_S kp) D H → va_S (fun q => gB G < q) s.heap H locs → lv_has ls 4 [(0, .ref b), (1, .ref (gB G + 1)), (2, .ref (gB G + 132)), (3, .int (nI i))] → W p l e room_1 s m #[Value.ref b] below meth c H locs ca sa (lw_Z below #[Value.ref b] s) (F0 m pc ls [])
theorem lc_ik : ∀ k, k < 6 → Int32.ofInt ((k : Nat) : Int) = nI k := by decide +kernel
section LawA
variable {p : Program} {l : Launch} {e : Env} {s : State} {m : MethodId} {below : List Frame} {meth : Method} {c : Code} {G : ev_G} {b L i : Nat} {xs : Nat → Int32} {Q : State → Prop} {H : Heap} {locs : List Loc} {ca sa pc : Nat} {ls : Array Slot} {rest : List Value}
/-- script[i + k] -/
theorem lc_arg (C : lc_X p s m c G b L xs below meth) (k : Nat) (hk : k ≤ 5) (hi : i + 6 ≤ L) (hS : va_S (fun q => gB G < q) s.heap H locs) (hl : lv_has ls 4 [(0, .ref b), (1, .ref (gB G + 1)), (2, .ref (gB G + 132)), (3, .int (nI i))]) (d1 : decode code pc = .ok (.aload_n 0, 1)) (d2 : decode code (pc + 1) = .ok (.iload_n 3, 1)) (d3 : decode code (pc + 2) = .ok (.iconst k, 1)) (d4 : decode code (pc + 3) = .ok (.iadd, 1)) (d5 : decode code (pc + 4) = .ok (.iaload, 1))
    (kk : W p l e room_1 s m #[Value.ref b] below meth c H locs ca sa Q (F0 m (pc + 5) ls (.int (xs (i + k)) :: rest))) : W p l e room_1 s m #[Value.ref b] below meth c H locs ca sa Q (F0 m pc ls rest) := by
  obtain ⟨hx, hb, hml, hown, hWm, hT, hX, hbl, hsz, hL⟩ := C
  refine lv_aload_n hx hb d1 rfl (lv_at hl 0 rfl) ?_
  refine lv_iload_n hx hb d2 rfl (lv_at hl 3 rfl) ?_
  refine lv_iconst (v := nI k) hx hb d3 (lc_ik k (by omega)) ?_
  refine lv_iadd hx hb d4 ?_
  rw [nI_add]
  have hin : vp_in (nI (i + k)) L := vp_in_nI (by omega) (by omega)
  have e1 : (nI (i + k)).toNatClampNeg = i + k := nI_clamp (by omega)
  refine va_sld hx hb hX hbl (show ¬ gB G < b by omega) hS hin d5 ?_
  rw [e1]
  exact kk
end LawA
def lc_fu : Nat := 40000
theorem ml_RL_13 : Cond.methodLink RL 13 yX11_state ∈ lw_tbl := (mt_2 (List.mem_of_getElem? (i := 203) rfl))
theorem ml_RL_17 : Cond.methodLink RL 17 yX12_state ∈ lw_tbl := (mt_7 (List.mem_of_getElem? (i := 1) rfl))
theorem ml_RL_18 : Cond.methodLink RL 18 yX11_ringer ∈ lw_tbl := (mt_2 (List.mem_of_getElem? (i := 211) rfl))
theorem ml_RL_22 : Cond.methodLink RL 22 yX12_ringer ∈ lw_tbl := (mt_7 (List.mem_of_getElem? (i := 5) rfl))
theorem ml_RL_23 : Cond.methodLink RL 23 yX11_set ∈ lw_tbl := (mt_2 (List.mem_of_getElem? (i := 226) rfl))
theorem ml_RL_27 : Cond.methodLink RL 27 yX12_set ∈ lw_tbl := (mt_7 (List.mem_of_getElem? (i := 17) rfl))
theorem ml_RL_28 : Cond.methodLink RL 28 yX11_pull ∈ lw_tbl := (mt_3 (List.mem_of_getElem? (i := 2) rfl))
theorem ml_RL_31 : Cond.methodLink RL 31 yX12_pull ∈ lw_tbl := (mt_7 (List.mem_of_getElem? (i := 177) rfl))
theorem ml_RL_32 : Cond.methodLink RL 32 yX11_act ∈ lw_tbl := (mt_3 (List.mem_of_getElem? (i := 87) rfl))
theorem ml_RL_36 : Cond.methodLink RL 36 yX12_act ∈ lw_tbl := (mt_8 (List.mem_of_getElem? (i := 1) rfl))
theorem ml_RL_37 : Cond.methodLink RL 37 yX11_hours ∈ lw_tbl := (mt_3 (List.mem_of_getElem? (i := 94) rfl))
theorem ml_RL_40 : Cond.methodLink RL 40 yX12_hours ∈ lw_tbl := (mt_8 (List.mem_of_getElem? (i := 5) rfl))
theorem ml_RL_41 : Cond.methodLink RL 41 yX11_feed ∈ lw_tbl := (mt_3 (List.mem_of_getElem? (i := 142) rfl))
theorem ml_RL_45 : Cond.methodLink RL 45 yX12_feed ∈ lw_tbl := (mt_7 (List.mem_of_getElem? (i := 29) rfl))
theorem ml_RL_46 : Cond.methodLink RL 46 yX11_end ∈ lw_tbl := (mt_3 (List.mem_of_getElem? (i := 150) rfl))
theorem ml_RL_50 : Cond.methodLink RL 50 yX12_end ∈ lw_tbl := (mt_7 (List.mem_of_getElem? (i := 37) rfl))
theorem ml_RL_51 : Cond.methodLink RL 51 yX11_text ∈ lw_tbl := (mt_3 (List.mem_of_getElem? (i := 154) rfl))
theorem ml_RL_54 : Cond.methodLink RL 54 yX12_text ∈ lw_tbl := (mt_7 (List.mem_of_getElem? (i := 41) rfl))
theorem ml_RL_55 : Cond.methodLink RL 55 yX11_fault ∈ lw_tbl := (mt_4 (List.mem_of_getElem? (i := 170) rfl))
theorem ml_RL_58 : Cond.methodLink RL 58 yX12_fault ∈ lw_tbl := (mt_7 (List.mem_of_getElem? (i := 173) rfl))
theorem ml_RL_59 : Cond.methodLink RL 59 yX11_of ∈ lw_tbl := (mt_4 (List.mem_of_getElem? (i := 174) rfl))
theorem ml_RL_63 : Cond.methodLink RL 63 yX12_of ∈ lw_tbl := (mt_8 (List.mem_of_getElem? (i := 43) rfl))
theorem ml_RL_64 : Cond.methodLink RL 64 yX11_bell ∈ lw_tbl := (mt_4 (List.mem_of_getElem? (i := 180) rfl))
theorem ml_RL_67 : Cond.methodLink RL 67 yX12_bell ∈ lw_tbl := (mt_8 (List.mem_of_getElem? (i := 47) rfl))
theorem ml_RL_68 : Cond.methodLink RL 68 yX11_lost ∈ lw_tbl := (mt_4 (List.mem_of_getElem? (i := 184) rfl))
theorem ml_RL_72 : Cond.methodLink RL 72 yX12_lost ∈ lw_tbl := (mt_8 (List.mem_of_getElem? (i := 51) rfl))
theorem ml_RL_73 : Cond.methodLink RL 73 yX11_book ∈ lw_tbl := (mt_4 (List.mem_of_getElem? (i := 188) rfl))
theorem ml_RL_76 : Cond.methodLink RL 76 yX12_book ∈ lw_tbl := (mt_8 (List.mem_of_getElem? (i := 55) rfl))
theorem ml_RL_77 : Cond.methodLink RL 77 yX11_goes ∈ lw_tbl := (mt_4 (List.mem_of_getElem? (i := 196) rfl))
theorem ml_RL_80 : Cond.methodLink RL 80 yX12_goes ∈ lw_tbl := (mt_8 (List.mem_of_getElem? (i := 59) rfl))
theorem ml_RL_81 : Cond.methodLink RL 81 yX11_peal ∈ lw_tbl := (mt_4 (List.mem_of_getElem? (i := 206) rfl))
theorem ml_RL_84 : Cond.methodLink RL 84 yX12_peal ∈ lw_tbl := (mt_8 (List.mem_of_getElem? (i := 75) rfl))
theorem ml_RL_85 : Cond.methodLink RL 85 yX11_row ∈ lw_tbl := (mt_4 (List.mem_of_getElem? (i := 232) rfl))
theorem ml_RL_88 : Cond.methodLink RL 88 yX12_row ∈ lw_tbl := (mt_8 (List.mem_of_getElem? (i := 99) rfl))
theorem ml_RL_89 : Cond.methodLink RL 89 yX11_sign ∈ lw_tbl := (mt_5 (List.mem_of_getElem? (i := 1) rfl))
theorem ml_RL_92 : Cond.methodLink RL 92 yX12_sign ∈ lw_tbl := (mt_8 (List.mem_of_getElem? (i := 103) rfl))
theorem ml_RL_93 : Cond.methodLink RL 93 yX11_meant ∈ lw_tbl := (mt_5 (List.mem_of_getElem? (i := 8) rfl))
theorem ml_RL_96 : Cond.methodLink RL 96 yX12_meant ∈ lw_tbl := (mt_8 (List.mem_of_getElem? (i := 108) rfl))
theorem ml_RL_97 : Cond.methodLink RL 97 yX11_round ∈ lw_tbl := (mt_5 (List.mem_of_getElem? (i := 30) rfl))
theorem ml_RL_100 : Cond.methodLink RL 100 yX12_round ∈ lw_tbl := (mt_8 (List.mem_of_getElem? (i := 117) rfl))
theorem ml_RL_101 : Cond.methodLink RL 101 yX11_together ∈ lw_tbl := (mt_5 (List.mem_of_getElem? (i := 34) rfl))
theorem ml_RL_104 : Cond.methodLink RL 104 yX12_together ∈ lw_tbl := (mt_8 (List.mem_of_getElem? (i := 121) rfl))
theorem ml_RL_105 : Cond.methodLink RL 105 yX11_hold ∈ lw_tbl := (mt_5 (List.mem_of_getElem? (i := 53) rfl))
theorem ml_RL_108 : Cond.methodLink RL 108 yX12_hold ∈ lw_tbl := (mt_8 (List.mem_of_getElem? (i := 129) rfl))
theorem ml_RL_109 : Cond.methodLink RL 109 yX11_holds ∈ lw_tbl := (mt_5 (List.mem_of_getElem? (i := 57) rfl))
theorem ml_RL_112 : Cond.methodLink RL 112 yX12_holds ∈ lw_tbl := (mt_8 (List.mem_of_getElem? (i := 133) rfl))
theorem ml_RL_113 : Cond.methodLink RL 113 yX11_see ∈ lw_tbl := (mt_5 (List.mem_of_getElem? (i := 80) rfl))
theorem ml_RL_116 : Cond.methodLink RL 116 yX12_see ∈ lw_tbl := (mt_8 (List.mem_of_getElem? (i := 145) rfl))
theorem ml_RL_117 : Cond.methodLink RL 117 yX11_waves ∈ lw_tbl := (mt_5 (List.mem_of_getElem? (i := 84) rfl))
theorem ml_RL_120 : Cond.methodLink RL 120 yX12_waves ∈ lw_tbl := (mt_8 (List.mem_of_getElem? (i := 149) rfl))
theorem ml_RL_121 : Cond.methodLink RL 121 yX11_bears ∈ lw_tbl := (mt_5 (List.mem_of_getElem? (i := 101) rfl))
theorem ml_RL_124 : Cond.methodLink RL 124 yX12_bears ∈ lw_tbl := (mt_8 (List.mem_of_getElem? (i := 157) rfl))
theorem ml_RL_125 : Cond.methodLink RL 125 yX11_pigeon ∈ lw_tbl := (mt_5 (List.mem_of_getElem? (i := 113) rfl))
theorem ml_RL_128 : Cond.methodLink RL 128 yX12_pigeon ∈ lw_tbl := (mt_8 (List.mem_of_getElem? (i := 165) rfl))
theorem ml_RL_129 : Cond.methodLink RL 129 yX11_best ∈ lw_tbl := (mt_5 (List.mem_of_getElem? (i := 117) rfl))
theorem ml_RL_132 : Cond.methodLink RL 132 yX12_best ∈ lw_tbl := (mt_8 (List.mem_of_getElem? (i := 169) rfl))
theorem ml_RL_133 : Cond.methodLink RL 133 yX11_stranger ∈ lw_tbl := (mt_5 (List.mem_of_getElem? (i := 125) rfl))
theorem ml_RL_136 : Cond.methodLink RL 136 yX12_stranger ∈ lw_tbl := (mt_8 (List.mem_of_getElem? (i := 177) rfl))
theorem ml_RL_137 : Cond.methodLink RL 137 yX11_heard ∈ lw_tbl := (mt_5 (List.mem_of_getElem? (i := 129) rfl))
theorem ml_RL_140 : Cond.methodLink RL 140 yX12_heard ∈ lw_tbl := (mt_8 (List.mem_of_getElem? (i := 181) rfl))
theorem ml_RL_141 : Cond.methodLink RL 141 yX11_feeds ∈ lw_tbl := (mt_5 (List.mem_of_getElem? (i := 152) rfl))
theorem ml_RL_144 : Cond.methodLink RL 144 yX12_feeds ∈ lw_tbl := (mt_8 (List.mem_of_getElem? (i := 197) rfl))
theorem ml_RL_145 : Cond.methodLink RL 145 yX11_casts ∈ lw_tbl := (mt_5 (List.mem_of_getElem? (i := 173) rfl))
theorem ml_RL_148 : Cond.methodLink RL 148 yX12_casts ∈ lw_tbl := (mt_8 (List.mem_of_getElem? (i := 209) rfl))
theorem ml_RL_149 : Cond.methodLink RL 149 yX11_opinion ∈ lw_tbl := (mt_5 (List.mem_of_getElem? (i := 189) rfl))
theorem ml_RL_152 : Cond.methodLink RL 152 yX12_opinion ∈ lw_tbl := (mt_8 (List.mem_of_getElem? (i := 217) rfl))
theorem ml_RL_153 : Cond.methodLink RL 153 yX11_peals ∈ lw_tbl := (mt_5 (List.mem_of_getElem? (i := 193) rfl))
theorem ml_RL_156 : Cond.methodLink RL 156 yX12_peals ∈ lw_tbl := (mt_8 (List.mem_of_getElem? (i := 221) rfl))
theorem ml_RL_157 : Cond.methodLink RL 157 yX11_game ∈ lw_tbl := (mt_5 (List.mem_of_getElem? (i := 215) rfl))
theorem ml_RL_160 : Cond.methodLink RL 160 yX12_game ∈ lw_tbl := (mt_8 (List.mem_of_getElem? (i := 233) rfl))
theorem ml_RL_161 : Cond.methodLink RL 161 yX11_undo ∈ lw_tbl := (mt_5 (List.mem_of_getElem? (i := 232) rfl))
theorem ml_RL_165 : Cond.methodLink RL 165 yX12_undo ∈ lw_tbl := (mt_6 (List.mem_of_getElem? (i := 237) rfl))
theorem ml_RL_171 : Cond.methodLink RL 171 yX11_look ∈ lw_tbl := (mt_6 (List.mem_of_getElem? (i := 25) rfl))
theorem ml_RL_174 : Cond.methodLink RL 174 yX12_look ∈ lw_tbl := (mt_9 (List.mem_of_getElem? (i := 21) rfl))
set_option maxRecDepth 100000 in
theorem lc_state {p : Program} {l : Launch} {e : Env} {s : State} {m : MethodId} {below : List Frame} {meth : Method} {c : Code} {G : ev_G} {b L i kp ca sa : Nat} {xs : Nat → Int32} {Inv : Nat → ev_D → Prop} (C : lc_X p s m c G b L xs below meth) (hk : kp = 0 ∨ kp = 171) (hi : i + 6 ≤ L) (hC : ca ≤ 600000 ∧ sa ≤ 7302250) (hpl : ∀ (a1 : Int32) (D : ev_D), Inv kp D → ∃ (r : Int32) (D1 D2 : ev_D), fX11_state sh_L (sh_E kp) lc_fu 1 a1 D = some (r, D1) ∧ fX12_state sh_L (sh_E kp) lc_fu 132 a1 D1 = some (r, D2) ∧ Inv kp D2) (hN : lc_N Inv p l e s m below meth c G b i kp ca sa 1360) : lc_N Inv p l e s m below meth c G b i kp ca sa 200 := by
  intro D H locs ls hI hW hS hl
  obtain ⟨r, D1, D2, h1, h2, hI2⟩ := hpl (xs (i + 1)) D hI
  have hcx := C
  obtain ⟨hx, hb, hml, hown, hWm, hT, hX, hbl, hsz, hL⟩ := hcx
  refine lv_aload_n hx hb dL_200 rfl (lv_at hl 1 rfl) ?_
  refine lc_arg C 1 (by decide) hi hS hl dL_201 dL_202 dL_203 dL_204 dL_205 ?_
  refine ev_callW (S := sh_S kp) (S2 := sh_S kp) (vs := [.int (xs (i + 1))]) (rest := []) (r := (r, D1)) (d := 800) hx hb hml hown hWm hT (by decide) (by decide) YX11_state ml_RL_13 (mX11_state (sh_ty hk) (sh_k1 hk) h1) (by decide) 11 (sh_k1 hk) rfl rfl (Nat.le_of_ble_eq_true rfl) dL_206 hC hl.1 hW hS (fun H locs hW hS => ?_)
  refine lv_aload_n hx hb dL_209 rfl (lv_at hl 2 rfl) ?_
  refine lc_arg C 1 (by decide) hi hS hl dL_210 dL_211 dL_212 dL_213 dL_214 ?_
  refine ev_callW (S := sh_S kp) (S2 := sh_S kp) (vs := [.int (xs (i + 1))]) (rest := [.int r]) (r := (r, D2)) (d := 800) hx hb hml hown hWm hT (by decide) (by decide) YX12_state ml_RL_17 (mX12_state (sh_ty hk) (sh_kM hk) h2) (by decide) 12 (sh_kM hk) rfl rfl (Nat.le_of_ble_eq_true rfl) dL_215 hC hl.1 hW hS (fun H locs hW hS => ?_)
  exact lv_icmp_eq (tgt := 1360) (off := 1142) hx hb dL_218 (by decide) (fun _ => hN D2 H locs ls hI2 hW hS hl) (fun h => absurd rfl h)
set_option maxRecDepth 100000 in
theorem lc_ringer {p : Program} {l : Launch} {e : Env} {s : State} {m : MethodId} {below : List Frame} {meth : Method} {c : Code} {G : ev_G} {b L i kp ca sa : Nat} {xs : Nat → Int32} {Inv : Nat → ev_D → Prop} (C : lc_X p s m c G b L xs below meth) (hk : kp = 0 ∨ kp = 171) (hi : i + 6 ≤ L) (hC : ca ≤ 600000 ∧ sa ≤ 7302250) (hpl : ∀ (a1 a2 a3 : Int32) (D : ev_D), Inv kp D → ∃ (r : Int32) (D1 D2 : ev_D), fX11_ringer sh_L (sh_E kp) lc_fu 1 a1 a2 a3 D = some (r, D1) ∧ fX12_ringer sh_L (sh_E kp) lc_fu 132 a1 a2 a3 D1 = some (r, D2) ∧ Inv kp D2) (hN : lc_N Inv p l e s m below meth c G b i kp ca sa 1360) : lc_N Inv p l e s m below meth c G b i kp ca sa 223 := by
  intro D H locs ls hI hW hS hl
  obtain ⟨r, D1, D2, h1, h2, hI2⟩ := hpl (xs (i + 1)) (xs (i + 2)) (xs (i + 3)) D hI
  have hcx := C
  obtain ⟨hx, hb, hml, hown, hWm, hT, hX, hbl, hsz, hL⟩ := hcx
  refine lv_aload_n hx hb dL_223 rfl (lv_at hl 1 rfl) ?_
  refine lc_arg C 1 (by decide) hi hS hl dL_224 dL_225 dL_226 dL_227 dL_228 ?_
  refine lc_arg C 2 (by decide) hi hS hl dL_229 dL_230 dL_231 dL_232 dL_233 ?_
  refine lc_arg C 3 (by decide) hi hS hl dL_234 dL_235 dL_236 dL_237 dL_238 ?_
  refine ev_callW (S := sh_S kp) (S2 := sh_S kp) (vs := [.int (xs (i + 1)), .int (xs (i + 2)), .int (xs (i + 3))]) (rest := []) (r := (r, D1)) (d := 800) hx hb hml hown hWm hT (by decide) (by decide) YX11_ringer ml_RL_18 (mX11_ringer (sh_ty hk) (sh_k1 hk) h1) (by decide) 11 (sh_k1 hk) rfl rfl (Nat.le_of_ble_eq_true rfl) dL_239 hC hl.1 hW hS (fun H locs hW hS => ?_)
  refine lv_aload_n hx hb dL_242 rfl (lv_at hl 2 rfl) ?_
  refine lc_arg C 1 (by decide) hi hS hl dL_243 dL_244 dL_245 dL_246 dL_247 ?_
  refine lc_arg C 2 (by decide) hi hS hl dL_248 dL_249 dL_250 dL_251 dL_252 ?_
  refine lc_arg C 3 (by decide) hi hS hl dL_253 dL_254 dL_255 dL_256 dL_257 ?_
  refine ev_callW (S := sh_S kp) (S2 := sh_S kp) (vs := [.int (xs (i + 1)), .int (xs (i + 2)), .int (xs (i + 3))]) (rest := [.int r]) (r := (r, D2)) (d := 800) hx hb hml hown hWm hT (by decide) (by decide) YX12_ringer ml_RL_22 (mX12_ringer (sh_ty hk) (sh_kM hk) h2) (by decide) 12 (sh_kM hk) rfl rfl (Nat.le_of_ble_eq_true rfl) dL_258 hC hl.1 hW hS (fun H locs hW hS => ?_)
  exact lv_icmp_eq (tgt := 1360) (off := 1099) hx hb dL_261 (by decide) (fun _ => hN D2 H locs ls hI2 hW hS hl) (fun h => absurd rfl h)
set_option maxRecDepth 100000 in
theorem lc_set {p : Program} {l : Launch} {e : Env} {s : State} {m : MethodId} {below : List Frame} {meth : Method} {c : Code} {G : ev_G} {b L i kp ca sa : Nat} {xs : Nat → Int32} {Inv : Nat → ev_D → Prop} (C : lc_X p s m c G b L xs below meth) (hk : kp = 0 ∨ kp = 171) (hi : i + 6 ≤ L) (hC : ca ≤ 600000 ∧ sa ≤ 7302250) (hpl : ∀ (a1 a2 a3 : Int32) (D : ev_D), Inv kp D → ∃ (r : Int32) (D1 D2 : ev_D), fX11_set sh_L (sh_E kp) lc_fu 1 a1 a2 a3 D = some (r, D1) ∧ fX12_set sh_L (sh_E kp) lc_fu 132 a1 a2 a3 D1 = some (r, D2) ∧ Inv kp D2) (hN : lc_N Inv p l e s m below meth c G b i kp ca sa 1360) : lc_N Inv p l e s m below meth c G b i kp ca sa 266 := by
  intro D H locs ls hI hW hS hl
  obtain ⟨r, D1, D2, h1, h2, hI2⟩ := hpl (xs (i + 1)) (xs (i + 2)) (xs (i + 3)) D hI
  have hcx := C
  obtain ⟨hx, hb, hml, hown, hWm, hT, hX, hbl, hsz, hL⟩ := hcx
  refine lv_aload_n hx hb dL_266 rfl (lv_at hl 1 rfl) ?_
  refine lc_arg C 1 (by decide) hi hS hl dL_267 dL_268 dL_269 dL_270 dL_271 ?_
  refine lc_arg C 2 (by decide) hi hS hl dL_272 dL_273 dL_274 dL_275 dL_276 ?_
  refine lc_arg C 3 (by decide) hi hS hl dL_277 dL_278 dL_279 dL_280 dL_281 ?_
  refine ev_callW (S := sh_S kp) (S2 := sh_S kp) (vs := [.int (xs (i + 1)), .int (xs (i + 2)), .int (xs (i + 3))]) (rest := []) (r := (r, D1)) (d := 800) hx hb hml hown hWm hT (by decide) (by decide) YX11_set ml_RL_23 (mX11_set (sh_ty hk) (sh_k1 hk) h1) (by decide) 11 (sh_k1 hk) rfl rfl (Nat.le_of_ble_eq_true rfl) dL_282 hC hl.1 hW hS (fun H locs hW hS => ?_)
  refine lv_aload_n hx hb dL_285 rfl (lv_at hl 2 rfl) ?_
  refine lc_arg C 1 (by decide) hi hS hl dL_286 dL_287 dL_288 dL_289 dL_290 ?_
  refine lc_arg C 2 (by decide) hi hS hl dL_291 dL_292 dL_293 dL_294 dL_295 ?_
  refine lc_arg C 3 (by decide) hi hS hl dL_296 dL_297 dL_298 dL_299 dL_300 ?_
  refine ev_callW (S := sh_S kp) (S2 := sh_S kp) (vs := [.int (xs (i + 1)), .int (xs (i + 2)), .int (xs (i + 3))]) (rest := [.int r]) (r := (r, D2)) (d := 800) hx hb hml hown hWm hT (by decide) (by decide) YX12_set ml_RL_27 (mX12_set (sh_ty hk) (sh_kM hk) h2) (by decide) 12 (sh_kM hk) rfl rfl (Nat.le_of_ble_eq_true rfl) dL_301 hC hl.1 hW hS (fun H locs hW hS => ?_)
  exact lv_icmp_eq (tgt := 1360) (off := 1056) hx hb dL_304 (by decide) (fun _ => hN D2 H locs ls hI2 hW hS hl) (fun h => absurd rfl h)
set_option maxRecDepth 100000 in
theorem lc_pull {p : Program} {l : Launch} {e : Env} {s : State} {m : MethodId} {below : List Frame} {meth : Method} {c : Code} {G : ev_G} {b L i kp ca sa : Nat} {xs : Nat → Int32} {Inv : Nat → ev_D → Prop} (C : lc_X p s m c G b L xs below meth) (hk : kp = 0 ∨ kp = 171) (hi : i + 6 ≤ L) (hC : ca ≤ 600000 ∧ sa ≤ 7302250) (hpl : ∀ (a1 : Int32) (D : ev_D), Inv kp D → ∃ (r : Int32) (D1 D2 : ev_D), fX11_pull sh_L (sh_E kp) lc_fu 1 a1 D = some (r, D1) ∧ fX12_pull sh_L (sh_E kp) lc_fu 132 a1 D1 = some (r, D2) ∧ Inv kp D2) (hN : lc_N Inv p l e s m below meth c G b i kp ca sa 1360) : lc_N Inv p l e s m below meth c G b i kp ca sa 309 := by
  intro D H locs ls hI hW hS hl
  obtain ⟨r, D1, D2, h1, h2, hI2⟩ := hpl (xs (i + 1)) D hI
  have hcx := C
  obtain ⟨hx, hb, hml, hown, hWm, hT, hX, hbl, hsz, hL⟩ := hcx
  refine lv_aload_n hx hb dL_309 rfl (lv_at hl 1 rfl) ?_
  refine lc_arg C 1 (by decide) hi hS hl dL_310 dL_311 dL_312 dL_313 dL_314 ?_
  refine ev_callW (S := sh_S kp) (S2 := sh_S kp) (vs := [.int (xs (i + 1))]) (rest := []) (r := (r, D1)) (d := 800) hx hb hml hown hWm hT (by decide) (by decide) YX11_pull ml_RL_28 (mX11_pull (sh_ty hk) (sh_k1 hk) h1) (by decide) 11 (sh_k1 hk) rfl rfl (Nat.le_of_ble_eq_true rfl) dL_315 hC hl.1 hW hS (fun H locs hW hS => ?_)
  refine lv_aload_n hx hb dL_318 rfl (lv_at hl 2 rfl) ?_
  refine lc_arg C 1 (by decide) hi hS hl dL_319 dL_320 dL_321 dL_322 dL_323 ?_
  refine ev_callW (S := sh_S kp) (S2 := sh_S kp) (vs := [.int (xs (i + 1))]) (rest := [.int r]) (r := (r, D2)) (d := 800) hx hb hml hown hWm hT (by decide) (by decide) YX12_pull ml_RL_31 (mX12_pull (sh_ty hk) (sh_kM hk) h2) (by decide) 12 (sh_kM hk) rfl rfl (Nat.le_of_ble_eq_true rfl) dL_324 hC hl.1 hW hS (fun H locs hW hS => ?_)
  exact lv_icmp_eq (tgt := 1360) (off := 1033) hx hb dL_327 (by decide) (fun _ => hN D2 H locs ls hI2 hW hS hl) (fun h => absurd rfl h)
set_option maxRecDepth 100000 in
theorem lc_act {p : Program} {l : Launch} {e : Env} {s : State} {m : MethodId} {below : List Frame} {meth : Method} {c : Code} {G : ev_G} {b L i kp ca sa : Nat} {xs : Nat → Int32} {Inv : Nat → ev_D → Prop} (C : lc_X p s m c G b L xs below meth) (hk : kp = 0 ∨ kp = 171) (hi : i + 6 ≤ L) (hC : ca ≤ 600000 ∧ sa ≤ 7302250) (hpl : ∀ (a1 a2 : Int32) (D : ev_D), Inv kp D → ∃ (r : Int32) (D1 D2 : ev_D), fX11_act sh_L (sh_E kp) lc_fu 1 a1 a2 D = some (r, D1) ∧ fX12_act sh_L (sh_E kp) lc_fu 132 a1 a2 D1 = some (r, D2) ∧ Inv kp D2) (hN : lc_N Inv p l e s m below meth c G b i kp ca sa 1360) : lc_N Inv p l e s m below meth c G b i kp ca sa 332 := by
  intro D H locs ls hI hW hS hl
  obtain ⟨r, D1, D2, h1, h2, hI2⟩ := hpl (xs (i + 1)) (xs (i + 2)) D hI
  have hcx := C
  obtain ⟨hx, hb, hml, hown, hWm, hT, hX, hbl, hsz, hL⟩ := hcx
  refine lv_aload_n hx hb dL_332 rfl (lv_at hl 1 rfl) ?_
  refine lc_arg C 1 (by decide) hi hS hl dL_333 dL_334 dL_335 dL_336 dL_337 ?_
  refine lc_arg C 2 (by decide) hi hS hl dL_338 dL_339 dL_340 dL_341 dL_342 ?_
  refine ev_callW (S := sh_S kp) (S2 := sh_S kp) (vs := [.int (xs (i + 1)), .int (xs (i + 2))]) (rest := []) (r := (r, D1)) (d := 800) hx hb hml hown hWm hT (by decide) (by decide) YX11_act ml_RL_32 (mX11_act (sh_ty hk) (sh_k1 hk) h1) (by decide) 11 (sh_k1 hk) rfl rfl (Nat.le_of_ble_eq_true rfl) dL_343 hC hl.1 hW hS (fun H locs hW hS => ?_)
  refine lv_aload_n hx hb dL_346 rfl (lv_at hl 2 rfl) ?_
  refine lc_arg C 1 (by decide) hi hS hl dL_347 dL_348 dL_349 dL_350 dL_351 ?_
  refine lc_arg C 2 (by decide) hi hS hl dL_352 dL_353 dL_354 dL_355 dL_356 ?_
  refine ev_callW (S := sh_S kp) (S2 := sh_S kp) (vs := [.int (xs (i + 1)), .int (xs (i + 2))]) (rest := [.int r]) (r := (r, D2)) (d := 800) hx hb hml hown hWm hT (by decide) (by decide) YX12_act ml_RL_36 (mX12_act (sh_ty hk) (sh_kM hk) h2) (by decide) 12 (sh_kM hk) rfl rfl (Nat.le_of_ble_eq_true rfl) dL_357 hC hl.1 hW hS (fun H locs hW hS => ?_)
  exact lv_icmp_eq (tgt := 1360) (off := 1000) hx hb dL_360 (by decide) (fun _ => hN D2 H locs ls hI2 hW hS hl) (fun h => absurd rfl h)
set_option maxRecDepth 100000 in
theorem lc_hours {p : Program} {l : Launch} {e : Env} {s : State} {m : MethodId} {below : List Frame} {meth : Method} {c : Code} {G : ev_G} {b L i kp ca sa : Nat} {xs : Nat → Int32} {Inv : Nat → ev_D → Prop} (C : lc_X p s m c G b L xs below meth) (hk : kp = 0 ∨ kp = 171) (hi : i + 6 ≤ L) (hC : ca ≤ 600000 ∧ sa ≤ 7302250) (hpl : ∀ (a1 : Int32) (D : ev_D), Inv kp D → ∃ (r : Int32) (D1 D2 : ev_D), fX11_hours sh_L (sh_E kp) lc_fu 1 a1 D = some (r, D1) ∧ fX12_hours sh_L (sh_E kp) lc_fu 132 a1 D1 = some (r, D2) ∧ Inv kp D2) (hN : lc_N Inv p l e s m below meth c G b i kp ca sa 1360) : lc_N Inv p l e s m below meth c G b i kp ca sa 365 := by
  intro D H locs ls hI hW hS hl
  obtain ⟨r, D1, D2, h1, h2, hI2⟩ := hpl (xs (i + 1)) D hI
  have hcx := C
  obtain ⟨hx, hb, hml, hown, hWm, hT, hX, hbl, hsz, hL⟩ := hcx
  refine lv_aload_n hx hb dL_365 rfl (lv_at hl 1 rfl) ?_
  refine lc_arg C 1 (by decide) hi hS hl dL_366 dL_367 dL_368 dL_369 dL_370 ?_
  refine ev_callW (S := sh_S kp) (S2 := sh_S kp) (vs := [.int (xs (i + 1))]) (rest := []) (r := (r, D1)) (d := 800) hx hb hml hown hWm hT (by decide) (by decide) YX11_hours ml_RL_37 (mX11_hours (sh_ty hk) (sh_k1 hk) h1) (by decide) 11 (sh_k1 hk) rfl rfl (Nat.le_of_ble_eq_true rfl) dL_371 hC hl.1 hW hS (fun H locs hW hS => ?_)
  refine lv_aload_n hx hb dL_374 rfl (lv_at hl 2 rfl) ?_
  refine lc_arg C 1 (by decide) hi hS hl dL_375 dL_376 dL_377 dL_378 dL_379 ?_
  refine ev_callW (S := sh_S kp) (S2 := sh_S kp) (vs := [.int (xs (i + 1))]) (rest := [.int r]) (r := (r, D2)) (d := 800) hx hb hml hown hWm hT (by decide) (by decide) YX12_hours ml_RL_40 (mX12_hours (sh_ty hk) (sh_kM hk) h2) (by decide) 12 (sh_kM hk) rfl rfl (Nat.le_of_ble_eq_true rfl) dL_380 hC hl.1 hW hS (fun H locs hW hS => ?_)
  exact lv_icmp_eq (tgt := 1360) (off := 977) hx hb dL_383 (by decide) (fun _ => hN D2 H locs ls hI2 hW hS hl) (fun h => absurd rfl h)
set_option maxRecDepth 100000 in
theorem lc_feed {p : Program} {l : Launch} {e : Env} {s : State} {m : MethodId} {below : List Frame} {meth : Method} {c : Code} {G : ev_G} {b L i kp ca sa : Nat} {xs : Nat → Int32} {Inv : Nat → ev_D → Prop} (C : lc_X p s m c G b L xs below meth) (hk : kp = 0 ∨ kp = 171) (hi : i + 6 ≤ L) (hC : ca ≤ 600000 ∧ sa ≤ 7302250) (hpl : ∀ (a1 a2 a3 a4 a5 : Int32) (D : ev_D), Inv kp D → ∃ (r : Int32) (D1 D2 : ev_D), fX11_feed sh_L (sh_E kp) lc_fu 1 a1 a2 a3 a4 a5 D = some (r, D1) ∧ fX12_feed sh_L (sh_E kp) lc_fu 132 a1 a2 a3 a4 a5 D1 = some (r, D2) ∧ Inv kp D2) (hN : lc_N Inv p l e s m below meth c G b i kp ca sa 1360) : lc_N Inv p l e s m below meth c G b i kp ca sa 388 := by
  intro D H locs ls hI hW hS hl
  obtain ⟨r, D1, D2, h1, h2, hI2⟩ := hpl (xs (i + 1)) (xs (i + 2)) (xs (i + 3)) (xs (i + 4)) (xs (i + 5)) D hI
  have hcx := C
  obtain ⟨hx, hb, hml, hown, hWm, hT, hX, hbl, hsz, hL⟩ := hcx
  refine lv_aload_n hx hb dL_388 rfl (lv_at hl 1 rfl) ?_
  refine lc_arg C 1 (by decide) hi hS hl dL_389 dL_390 dL_391 dL_392 dL_393 ?_
  refine lc_arg C 2 (by decide) hi hS hl dL_394 dL_395 dL_396 dL_397 dL_398 ?_
  refine lc_arg C 3 (by decide) hi hS hl dL_399 dL_400 dL_401 dL_402 dL_403 ?_
  refine lc_arg C 4 (by decide) hi hS hl dL_404 dL_405 dL_406 dL_407 dL_408 ?_
  refine lc_arg C 5 (by decide) hi hS hl dL_409 dL_410 dL_411 dL_412 dL_413 ?_
  refine ev_callW (S := sh_S kp) (S2 := sh_S kp) (vs := [.int (xs (i + 1)), .int (xs (i + 2)), .int (xs (i + 3)), .int (xs (i + 4)), .int (xs (i + 5))]) (rest := []) (r := (r, D1)) (d := 800) hx hb hml hown hWm hT (by decide) (by decide) YX11_feed ml_RL_41 (mX11_feed (sh_ty hk) (sh_k1 hk) h1) (by decide) 11 (sh_k1 hk) rfl rfl (Nat.le_of_ble_eq_true rfl) dL_414 hC hl.1 hW hS (fun H locs hW hS => ?_)
  refine lv_aload_n hx hb dL_417 rfl (lv_at hl 2 rfl) ?_
  refine lc_arg C 1 (by decide) hi hS hl dL_418 dL_419 dL_420 dL_421 dL_422 ?_
  refine lc_arg C 2 (by decide) hi hS hl dL_423 dL_424 dL_425 dL_426 dL_427 ?_
  refine lc_arg C 3 (by decide) hi hS hl dL_428 dL_429 dL_430 dL_431 dL_432 ?_
  refine lc_arg C 4 (by decide) hi hS hl dL_433 dL_434 dL_435 dL_436 dL_437 ?_
  refine lc_arg C 5 (by decide) hi hS hl dL_438 dL_439 dL_440 dL_441 dL_442 ?_
  refine ev_callW (S := sh_S kp) (S2 := sh_S kp) (vs := [.int (xs (i + 1)), .int (xs (i + 2)), .int (xs (i + 3)), .int (xs (i + 4)), .int (xs (i + 5))]) (rest := [.int r]) (r := (r, D2)) (d := 800) hx hb hml hown hWm hT (by decide) (by decide) YX12_feed ml_RL_45 (mX12_feed (sh_ty hk) (sh_kM hk) h2) (by decide) 12 (sh_kM hk) rfl rfl (Nat.le_of_ble_eq_true rfl) dL_443 hC hl.1 hW hS (fun H locs hW hS => ?_)
  exact lv_icmp_eq (tgt := 1360) (off := 914) hx hb dL_446 (by decide) (fun _ => hN D2 H locs ls hI2 hW hS hl) (fun h => absurd rfl h)
set_option maxRecDepth 100000 in
theorem lc_end {p : Program} {l : Launch} {e : Env} {s : State} {m : MethodId} {below : List Frame} {meth : Method} {c : Code} {G : ev_G} {b L i kp ca sa : Nat} {xs : Nat → Int32} {Inv : Nat → ev_D → Prop} (C : lc_X p s m c G b L xs below meth) (hk : kp = 0 ∨ kp = 171) (hi : i + 6 ≤ L) (hC : ca ≤ 600000 ∧ sa ≤ 7302250) (hpl : ∀ (a1 : Int32) (D : ev_D), Inv kp D → ∃ (r : Int32) (D1 D2 : ev_D), fX11_end sh_L (sh_E kp) lc_fu 1 a1 D = some (r, D1) ∧ fX12_end sh_L (sh_E kp) lc_fu 132 a1 D1 = some (r, D2) ∧ Inv kp D2) (hN : lc_N Inv p l e s m below meth c G b i kp ca sa 1360) : lc_N Inv p l e s m below meth c G b i kp ca sa 451 := by
  intro D H locs ls hI hW hS hl
  obtain ⟨r, D1, D2, h1, h2, hI2⟩ := hpl (xs (i + 1)) D hI
  have hcx := C
  obtain ⟨hx, hb, hml, hown, hWm, hT, hX, hbl, hsz, hL⟩ := hcx
  refine lv_aload_n hx hb dL_451 rfl (lv_at hl 1 rfl) ?_
  refine lc_arg C 1 (by decide) hi hS hl dL_452 dL_453 dL_454 dL_455 dL_456 ?_
  refine ev_callW (S := sh_S kp) (S2 := sh_S kp) (vs := [.int (xs (i + 1))]) (rest := []) (r := (r, D1)) (d := 800) hx hb hml hown hWm hT (by decide) (by decide) YX11_end ml_RL_46 (mX11_end (sh_ty hk) (sh_k1 hk) h1) (by decide) 11 (sh_k1 hk) rfl rfl (Nat.le_of_ble_eq_true rfl) dL_457 hC hl.1 hW hS (fun H locs hW hS => ?_)
  refine lv_aload_n hx hb dL_460 rfl (lv_at hl 2 rfl) ?_
  refine lc_arg C 1 (by decide) hi hS hl dL_461 dL_462 dL_463 dL_464 dL_465 ?_
  refine ev_callW (S := sh_S kp) (S2 := sh_S kp) (vs := [.int (xs (i + 1))]) (rest := [.int r]) (r := (r, D2)) (d := 800) hx hb hml hown hWm hT (by decide) (by decide) YX12_end ml_RL_50 (mX12_end (sh_ty hk) (sh_kM hk) h2) (by decide) 12 (sh_kM hk) rfl rfl (Nat.le_of_ble_eq_true rfl) dL_466 hC hl.1 hW hS (fun H locs hW hS => ?_)
  exact lv_icmp_eq (tgt := 1360) (off := 891) hx hb dL_469 (by decide) (fun _ => hN D2 H locs ls hI2 hW hS hl) (fun h => absurd rfl h)
set_option maxRecDepth 100000 in
theorem lc_text {p : Program} {l : Launch} {e : Env} {s : State} {m : MethodId} {below : List Frame} {meth : Method} {c : Code} {G : ev_G} {b L i kp ca sa : Nat} {xs : Nat → Int32} {Inv : Nat → ev_D → Prop} (C : lc_X p s m c G b L xs below meth) (hk : kp = 0 ∨ kp = 171) (hi : i + 6 ≤ L) (hC : ca ≤ 600000 ∧ sa ≤ 7302250) (hpl : ∀ (a1 : Int32) (D : ev_D), Inv kp D → ∃ (r : Int32) (D1 D2 : ev_D), fX11_text sh_L (sh_E kp) lc_fu 1 a1 D = some (r, D1) ∧ fX12_text sh_L (sh_E kp) lc_fu 132 a1 D1 = some (r, D2) ∧ Inv kp D2) (hN : lc_N Inv p l e s m below meth c G b i kp ca sa 1360) : lc_N Inv p l e s m below meth c G b i kp ca sa 474 := by
  intro D H locs ls hI hW hS hl
  obtain ⟨r, D1, D2, h1, h2, hI2⟩ := hpl (xs (i + 1)) D hI
  have hcx := C
  obtain ⟨hx, hb, hml, hown, hWm, hT, hX, hbl, hsz, hL⟩ := hcx
  refine lv_aload_n hx hb dL_474 rfl (lv_at hl 1 rfl) ?_
  refine lc_arg C 1 (by decide) hi hS hl dL_475 dL_476 dL_477 dL_478 dL_479 ?_
  refine ev_callW (S := sh_S kp) (S2 := sh_S kp) (vs := [.int (xs (i + 1))]) (rest := []) (r := (r, D1)) (d := 800) hx hb hml hown hWm hT (by decide) (by decide) YX11_text ml_RL_51 (mX11_text (sh_ty hk) (sh_k1 hk) h1) (by decide) 11 (sh_k1 hk) rfl rfl (Nat.le_of_ble_eq_true rfl) dL_480 hC hl.1 hW hS (fun H locs hW hS => ?_)
  refine lv_aload_n hx hb dL_483 rfl (lv_at hl 2 rfl) ?_
  refine lc_arg C 1 (by decide) hi hS hl dL_484 dL_485 dL_486 dL_487 dL_488 ?_
  refine ev_callW (S := sh_S kp) (S2 := sh_S kp) (vs := [.int (xs (i + 1))]) (rest := [.int r]) (r := (r, D2)) (d := 800) hx hb hml hown hWm hT (by decide) (by decide) YX12_text ml_RL_54 (mX12_text (sh_ty hk) (sh_kM hk) h2) (by decide) 12 (sh_kM hk) rfl rfl (Nat.le_of_ble_eq_true rfl) dL_489 hC hl.1 hW hS (fun H locs hW hS => ?_)
  exact lv_icmp_eq (tgt := 1360) (off := 868) hx hb dL_492 (by decide) (fun _ => hN D2 H locs ls hI2 hW hS hl) (fun h => absurd rfl h)
set_option maxRecDepth 100000 in
theorem lc_fault {p : Program} {l : Launch} {e : Env} {s : State} {m : MethodId} {below : List Frame} {meth : Method} {c : Code} {G : ev_G} {b L i kp ca sa : Nat} {xs : Nat → Int32} {Inv : Nat → ev_D → Prop} (C : lc_X p s m c G b L xs below meth) (hk : kp = 0 ∨ kp = 171) (hi : i + 6 ≤ L) (hC : ca ≤ 600000 ∧ sa ≤ 7302250) (hpl : ∀ (a1 : Int32) (D : ev_D), Inv kp D → ∃ (r : Int32) (D1 D2 : ev_D), fX11_fault sh_L (sh_E kp) lc_fu 1 a1 D = some (r, D1) ∧ fX12_fault sh_L (sh_E kp) lc_fu 132 a1 D1 = some (r, D2) ∧ Inv kp D2) (hN : lc_N Inv p l e s m below meth c G b i kp ca sa 1360) : lc_N Inv p l e s m below meth c G b i kp ca sa 497 := by
  intro D H locs ls hI hW hS hl
  obtain ⟨r, D1, D2, h1, h2, hI2⟩ := hpl (xs (i + 1)) D hI
  have hcx := C
  obtain ⟨hx, hb, hml, hown, hWm, hT, hX, hbl, hsz, hL⟩ := hcx
  refine lv_aload_n hx hb dL_497 rfl (lv_at hl 1 rfl) ?_
  refine lc_arg C 1 (by decide) hi hS hl dL_498 dL_499 dL_500 dL_501 dL_502 ?_
  refine ev_callW (S := sh_S kp) (S2 := sh_S kp) (vs := [.int (xs (i + 1))]) (rest := []) (r := (r, D1)) (d := 800) hx hb hml hown hWm hT (by decide) (by decide) YX11_fault ml_RL_55 (mX11_fault (sh_ty hk) (sh_k1 hk) h1) (by decide) 11 (sh_k1 hk) rfl rfl (Nat.le_of_ble_eq_true rfl) dL_503 hC hl.1 hW hS (fun H locs hW hS => ?_)
  refine lv_aload_n hx hb dL_506 rfl (lv_at hl 2 rfl) ?_
  refine lc_arg C 1 (by decide) hi hS hl dL_507 dL_508 dL_509 dL_510 dL_511 ?_
  refine ev_callW (S := sh_S kp) (S2 := sh_S kp) (vs := [.int (xs (i + 1))]) (rest := [.int r]) (r := (r, D2)) (d := 800) hx hb hml hown hWm hT (by decide) (by decide) YX12_fault ml_RL_58 (mX12_fault (sh_ty hk) (sh_kM hk) h2) (by decide) 12 (sh_kM hk) rfl rfl (Nat.le_of_ble_eq_true rfl) dL_512 hC hl.1 hW hS (fun H locs hW hS => ?_)
  exact lv_icmp_eq (tgt := 1360) (off := 845) hx hb dL_515 (by decide) (fun _ => hN D2 H locs ls hI2 hW hS hl) (fun h => absurd rfl h)
set_option maxRecDepth 100000 in
theorem lc_of {p : Program} {l : Launch} {e : Env} {s : State} {m : MethodId} {below : List Frame} {meth : Method} {c : Code} {G : ev_G} {b L i kp ca sa : Nat} {xs : Nat → Int32} {Inv : Nat → ev_D → Prop} (C : lc_X p s m c G b L xs below meth) (hk : kp = 0 ∨ kp = 171) (hi : i + 6 ≤ L) (hC : ca ≤ 600000 ∧ sa ≤ 7302250) (hpl : ∀ (a1 a2 : Int32) (D : ev_D), Inv kp D → ∃ (r : Int32) (D1 D2 : ev_D), fX11_of sh_L (sh_E kp) lc_fu 1 a1 a2 D = some (r, D1) ∧ fX12_of sh_L (sh_E kp) lc_fu 132 a1 a2 D1 = some (r, D2) ∧ Inv kp D2) (hN : lc_N Inv p l e s m below meth c G b i kp ca sa 1360) : lc_N Inv p l e s m below meth c G b i kp ca sa 520 := by
  intro D H locs ls hI hW hS hl
  obtain ⟨r, D1, D2, h1, h2, hI2⟩ := hpl (xs (i + 1)) (xs (i + 2)) D hI
  have hcx := C
  obtain ⟨hx, hb, hml, hown, hWm, hT, hX, hbl, hsz, hL⟩ := hcx
  refine lv_aload_n hx hb dL_520 rfl (lv_at hl 1 rfl) ?_
  refine lc_arg C 1 (by decide) hi hS hl dL_521 dL_522 dL_523 dL_524 dL_525 ?_
  refine lc_arg C 2 (by decide) hi hS hl dL_526 dL_527 dL_528 dL_529 dL_530 ?_
  refine ev_callW (S := sh_S kp) (S2 := sh_S kp) (vs := [.int (xs (i + 1)), .int (xs (i + 2))]) (rest := []) (r := (r, D1)) (d := 800) hx hb hml hown hWm hT (by decide) (by decide) YX11_of ml_RL_59 (mX11_of (sh_ty hk) (sh_k1 hk) h1) (by decide) 11 (sh_k1 hk) rfl rfl (Nat.le_of_ble_eq_true rfl) dL_531 hC hl.1 hW hS (fun H locs hW hS => ?_)
  refine lv_aload_n hx hb dL_534 rfl (lv_at hl 2 rfl) ?_
  refine lc_arg C 1 (by decide) hi hS hl dL_535 dL_536 dL_537 dL_538 dL_539 ?_
  refine lc_arg C 2 (by decide) hi hS hl dL_540 dL_541 dL_542 dL_543 dL_544 ?_
  refine ev_callW (S := sh_S kp) (S2 := sh_S kp) (vs := [.int (xs (i + 1)), .int (xs (i + 2))]) (rest := [.int r]) (r := (r, D2)) (d := 800) hx hb hml hown hWm hT (by decide) (by decide) YX12_of ml_RL_63 (mX12_of (sh_ty hk) (sh_kM hk) h2) (by decide) 12 (sh_kM hk) rfl rfl (Nat.le_of_ble_eq_true rfl) dL_545 hC hl.1 hW hS (fun H locs hW hS => ?_)
  exact lv_icmp_eq (tgt := 1360) (off := 812) hx hb dL_548 (by decide) (fun _ => hN D2 H locs ls hI2 hW hS hl) (fun h => absurd rfl h)
set_option maxRecDepth 100000 in
theorem lc_bell {p : Program} {l : Launch} {e : Env} {s : State} {m : MethodId} {below : List Frame} {meth : Method} {c : Code} {G : ev_G} {b L i kp ca sa : Nat} {xs : Nat → Int32} {Inv : Nat → ev_D → Prop} (C : lc_X p s m c G b L xs below meth) (hk : kp = 0 ∨ kp = 171) (hi : i + 6 ≤ L) (hC : ca ≤ 600000 ∧ sa ≤ 7302250) (hpl : ∀ (a1 a2 : Int32) (D : ev_D), Inv kp D → ∃ (r : Int32) (D1 D2 : ev_D), fX11_bell sh_L (sh_E kp) lc_fu 1 a1 a2 D = some (r, D1) ∧ fX12_bell sh_L (sh_E kp) lc_fu 132 a1 a2 D1 = some (r, D2) ∧ Inv kp D2) (hN : lc_N Inv p l e s m below meth c G b i kp ca sa 1360) : lc_N Inv p l e s m below meth c G b i kp ca sa 553 := by
  intro D H locs ls hI hW hS hl
  obtain ⟨r, D1, D2, h1, h2, hI2⟩ := hpl (xs (i + 1)) (xs (i + 2)) D hI
  have hcx := C
  obtain ⟨hx, hb, hml, hown, hWm, hT, hX, hbl, hsz, hL⟩ := hcx
  refine lv_aload_n hx hb dL_553 rfl (lv_at hl 1 rfl) ?_
  refine lc_arg C 1 (by decide) hi hS hl dL_554 dL_555 dL_556 dL_557 dL_558 ?_
  refine lc_arg C 2 (by decide) hi hS hl dL_559 dL_560 dL_561 dL_562 dL_563 ?_
  refine ev_callW (S := sh_S kp) (S2 := sh_S kp) (vs := [.int (xs (i + 1)), .int (xs (i + 2))]) (rest := []) (r := (r, D1)) (d := 800) hx hb hml hown hWm hT (by decide) (by decide) YX11_bell ml_RL_64 (mX11_bell (sh_ty hk) (sh_k1 hk) h1) (by decide) 11 (sh_k1 hk) rfl rfl (Nat.le_of_ble_eq_true rfl) dL_564 hC hl.1 hW hS (fun H locs hW hS => ?_)
  refine lv_aload_n hx hb dL_567 rfl (lv_at hl 2 rfl) ?_
  refine lc_arg C 1 (by decide) hi hS hl dL_568 dL_569 dL_570 dL_571 dL_572 ?_
  refine lc_arg C 2 (by decide) hi hS hl dL_573 dL_574 dL_575 dL_576 dL_577 ?_
  refine ev_callW (S := sh_S kp) (S2 := sh_S kp) (vs := [.int (xs (i + 1)), .int (xs (i + 2))]) (rest := [.int r]) (r := (r, D2)) (d := 800) hx hb hml hown hWm hT (by decide) (by decide) YX12_bell ml_RL_67 (mX12_bell (sh_ty hk) (sh_kM hk) h2) (by decide) 12 (sh_kM hk) rfl rfl (Nat.le_of_ble_eq_true rfl) dL_578 hC hl.1 hW hS (fun H locs hW hS => ?_)
  exact lv_icmp_eq (tgt := 1360) (off := 779) hx hb dL_581 (by decide) (fun _ => hN D2 H locs ls hI2 hW hS hl) (fun h => absurd rfl h)
set_option maxRecDepth 100000 in
theorem lc_lost {p : Program} {l : Launch} {e : Env} {s : State} {m : MethodId} {below : List Frame} {meth : Method} {c : Code} {G : ev_G} {b L i kp ca sa : Nat} {xs : Nat → Int32} {Inv : Nat → ev_D → Prop} (C : lc_X p s m c G b L xs below meth) (hk : kp = 0 ∨ kp = 171) (hi : i + 6 ≤ L) (hC : ca ≤ 600000 ∧ sa ≤ 7302250) (hpl : ∀ (D : ev_D), Inv kp D → ∃ (r : Int32) (D1 D2 : ev_D), fX11_lost sh_L (sh_E kp) lc_fu 1  D = some (r, D1) ∧ fX12_lost sh_L (sh_E kp) lc_fu 132  D1 = some (r, D2) ∧ Inv kp D2) (hN : lc_N Inv p l e s m below meth c G b i kp ca sa 1360) : lc_N Inv p l e s m below meth c G b i kp ca sa 586 := by
  intro D H locs ls hI hW hS hl
  obtain ⟨r, D1, D2, h1, h2, hI2⟩ := hpl  D hI
  have hcx := C
  obtain ⟨hx, hb, hml, hown, hWm, hT, hX, hbl, hsz, hL⟩ := hcx
  refine lv_aload_n hx hb dL_586 rfl (lv_at hl 1 rfl) ?_
  refine ev_callW (S := sh_S kp) (S2 := sh_S kp) (vs := []) (rest := []) (r := (r, D1)) (d := 800) hx hb hml hown hWm hT (by decide) (by decide) YX11_lost ml_RL_68 (mX11_lost (sh_ty hk) (sh_k1 hk) h1) (by decide) 11 (sh_k1 hk) rfl rfl (Nat.le_of_ble_eq_true rfl) dL_587 hC hl.1 hW hS (fun H locs hW hS => ?_)
  refine lv_aload_n hx hb dL_590 rfl (lv_at hl 2 rfl) ?_
  refine ev_callW (S := sh_S kp) (S2 := sh_S kp) (vs := []) (rest := [.int r]) (r := (r, D2)) (d := 800) hx hb hml hown hWm hT (by decide) (by decide) YX12_lost ml_RL_72 (mX12_lost (sh_ty hk) (sh_kM hk) h2) (by decide) 12 (sh_kM hk) rfl rfl (Nat.le_of_ble_eq_true rfl) dL_591 hC hl.1 hW hS (fun H locs hW hS => ?_)
  exact lv_icmp_eq (tgt := 1360) (off := 766) hx hb dL_594 (by decide) (fun _ => hN D2 H locs ls hI2 hW hS hl) (fun h => absurd rfl h)
set_option maxRecDepth 100000 in
theorem lc_book {p : Program} {l : Launch} {e : Env} {s : State} {m : MethodId} {below : List Frame} {meth : Method} {c : Code} {G : ev_G} {b L i kp ca sa : Nat} {xs : Nat → Int32} {Inv : Nat → ev_D → Prop} (C : lc_X p s m c G b L xs below meth) (hk : kp = 0 ∨ kp = 171) (hi : i + 6 ≤ L) (hC : ca ≤ 600000 ∧ sa ≤ 7302250) (hpl : ∀ (a1 a2 : Int32) (D : ev_D), Inv kp D → ∃ (r : Int32) (D1 D2 : ev_D), fX11_book sh_L (sh_E kp) lc_fu 1 a1 a2 D = some (r, D1) ∧ fX12_book sh_L (sh_E kp) lc_fu 132 a1 a2 D1 = some (r, D2) ∧ Inv kp D2) (hN : lc_N Inv p l e s m below meth c G b i kp ca sa 1360) : lc_N Inv p l e s m below meth c G b i kp ca sa 599 := by
  intro D H locs ls hI hW hS hl
  obtain ⟨r, D1, D2, h1, h2, hI2⟩ := hpl (xs (i + 1)) (xs (i + 2)) D hI
  have hcx := C
  obtain ⟨hx, hb, hml, hown, hWm, hT, hX, hbl, hsz, hL⟩ := hcx
  refine lv_aload_n hx hb dL_599 rfl (lv_at hl 1 rfl) ?_
  refine lc_arg C 1 (by decide) hi hS hl dL_600 dL_601 dL_602 dL_603 dL_604 ?_
  refine lc_arg C 2 (by decide) hi hS hl dL_605 dL_606 dL_607 dL_608 dL_609 ?_
  refine ev_callW (S := sh_S kp) (S2 := sh_S kp) (vs := [.int (xs (i + 1)), .int (xs (i + 2))]) (rest := []) (r := (r, D1)) (d := 800) hx hb hml hown hWm hT (by decide) (by decide) YX11_book ml_RL_73 (mX11_book (sh_ty hk) (sh_k1 hk) h1) (by decide) 11 (sh_k1 hk) rfl rfl (Nat.le_of_ble_eq_true rfl) dL_610 hC hl.1 hW hS (fun H locs hW hS => ?_)
  refine lv_aload_n hx hb dL_613 rfl (lv_at hl 2 rfl) ?_
  refine lc_arg C 1 (by decide) hi hS hl dL_614 dL_615 dL_616 dL_617 dL_618 ?_
  refine lc_arg C 2 (by decide) hi hS hl dL_619 dL_620 dL_621 dL_622 dL_623 ?_
  refine ev_callW (S := sh_S kp) (S2 := sh_S kp) (vs := [.int (xs (i + 1)), .int (xs (i + 2))]) (rest := [.int r]) (r := (r, D2)) (d := 800) hx hb hml hown hWm hT (by decide) (by decide) YX12_book ml_RL_76 (mX12_book (sh_ty hk) (sh_kM hk) h2) (by decide) 12 (sh_kM hk) rfl rfl (Nat.le_of_ble_eq_true rfl) dL_624 hC hl.1 hW hS (fun H locs hW hS => ?_)
  exact lv_icmp_eq (tgt := 1360) (off := 733) hx hb dL_627 (by decide) (fun _ => hN D2 H locs ls hI2 hW hS hl) (fun h => absurd rfl h)
set_option maxRecDepth 100000 in
theorem lc_goes {p : Program} {l : Launch} {e : Env} {s : State} {m : MethodId} {below : List Frame} {meth : Method} {c : Code} {G : ev_G} {b L i kp ca sa : Nat} {xs : Nat → Int32} {Inv : Nat → ev_D → Prop} (C : lc_X p s m c G b L xs below meth) (hk : kp = 0 ∨ kp = 171) (hi : i + 6 ≤ L) (hC : ca ≤ 600000 ∧ sa ≤ 7302250) (hpl : ∀ (a1 a2 : Int32) (D : ev_D), Inv kp D → ∃ (r : Int32) (D1 D2 : ev_D), fX11_goes sh_L (sh_E kp) lc_fu 1 a1 a2 D = some (r, D1) ∧ fX12_goes sh_L (sh_E kp) lc_fu 132 a1 a2 D1 = some (r, D2) ∧ Inv kp D2) (hN : lc_N Inv p l e s m below meth c G b i kp ca sa 1360) : lc_N Inv p l e s m below meth c G b i kp ca sa 632 := by
  intro D H locs ls hI hW hS hl
  obtain ⟨r, D1, D2, h1, h2, hI2⟩ := hpl (xs (i + 1)) (xs (i + 2)) D hI
  have hcx := C
  obtain ⟨hx, hb, hml, hown, hWm, hT, hX, hbl, hsz, hL⟩ := hcx
  refine lv_aload_n hx hb dL_632 rfl (lv_at hl 1 rfl) ?_
  refine lc_arg C 1 (by decide) hi hS hl dL_633 dL_634 dL_635 dL_636 dL_637 ?_
  refine lc_arg C 2 (by decide) hi hS hl dL_638 dL_639 dL_640 dL_641 dL_642 ?_
  refine ev_callW (S := sh_S kp) (S2 := sh_S kp) (vs := [.int (xs (i + 1)), .int (xs (i + 2))]) (rest := []) (r := (r, D1)) (d := 800) hx hb hml hown hWm hT (by decide) (by decide) YX11_goes ml_RL_77 (mX11_goes (sh_ty hk) (sh_k1 hk) h1) (by decide) 11 (sh_k1 hk) rfl rfl (Nat.le_of_ble_eq_true rfl) dL_643 hC hl.1 hW hS (fun H locs hW hS => ?_)
  refine lv_aload_n hx hb dL_646 rfl (lv_at hl 2 rfl) ?_
  refine lc_arg C 1 (by decide) hi hS hl dL_647 dL_648 dL_649 dL_650 dL_651 ?_
  refine lc_arg C 2 (by decide) hi hS hl dL_652 dL_653 dL_654 dL_655 dL_656 ?_
  refine ev_callW (S := sh_S kp) (S2 := sh_S kp) (vs := [.int (xs (i + 1)), .int (xs (i + 2))]) (rest := [.int r]) (r := (r, D2)) (d := 800) hx hb hml hown hWm hT (by decide) (by decide) YX12_goes ml_RL_80 (mX12_goes (sh_ty hk) (sh_kM hk) h2) (by decide) 12 (sh_kM hk) rfl rfl (Nat.le_of_ble_eq_true rfl) dL_657 hC hl.1 hW hS (fun H locs hW hS => ?_)
  exact lv_icmp_eq (tgt := 1360) (off := 700) hx hb dL_660 (by decide) (fun _ => hN D2 H locs ls hI2 hW hS hl) (fun h => absurd rfl h)
set_option maxRecDepth 100000 in
theorem lc_peal {p : Program} {l : Launch} {e : Env} {s : State} {m : MethodId} {below : List Frame} {meth : Method} {c : Code} {G : ev_G} {b L i kp ca sa : Nat} {xs : Nat → Int32} {Inv : Nat → ev_D → Prop} (C : lc_X p s m c G b L xs below meth) (hk : kp = 0 ∨ kp = 171) (hi : i + 6 ≤ L) (hC : ca ≤ 600000 ∧ sa ≤ 7302250) (hpl : ∀ (a1 a2 : Int32) (D : ev_D), Inv kp D → ∃ (r : Int32) (D1 D2 : ev_D), fX11_peal sh_L (sh_E kp) lc_fu 1 a1 a2 D = some (r, D1) ∧ fX12_peal sh_L (sh_E kp) lc_fu 132 a1 a2 D1 = some (r, D2) ∧ Inv kp D2) (hN : lc_N Inv p l e s m below meth c G b i kp ca sa 1360) : lc_N Inv p l e s m below meth c G b i kp ca sa 665 := by
  intro D H locs ls hI hW hS hl
  obtain ⟨r, D1, D2, h1, h2, hI2⟩ := hpl (xs (i + 1)) (xs (i + 2)) D hI
  have hcx := C
  obtain ⟨hx, hb, hml, hown, hWm, hT, hX, hbl, hsz, hL⟩ := hcx
  refine lv_aload_n hx hb dL_665 rfl (lv_at hl 1 rfl) ?_
  refine lc_arg C 1 (by decide) hi hS hl dL_666 dL_667 dL_668 dL_669 dL_670 ?_
  refine lc_arg C 2 (by decide) hi hS hl dL_671 dL_672 dL_673 dL_674 dL_675 ?_
  refine ev_callW (S := sh_S kp) (S2 := sh_S kp) (vs := [.int (xs (i + 1)), .int (xs (i + 2))]) (rest := []) (r := (r, D1)) (d := 800) hx hb hml hown hWm hT (by decide) (by decide) YX11_peal ml_RL_81 (mX11_peal (sh_ty hk) (sh_k1 hk) h1) (by decide) 11 (sh_k1 hk) rfl rfl (Nat.le_of_ble_eq_true rfl) dL_676 hC hl.1 hW hS (fun H locs hW hS => ?_)
  refine lv_aload_n hx hb dL_679 rfl (lv_at hl 2 rfl) ?_
  refine lc_arg C 1 (by decide) hi hS hl dL_680 dL_681 dL_682 dL_683 dL_684 ?_
  refine lc_arg C 2 (by decide) hi hS hl dL_685 dL_686 dL_687 dL_688 dL_689 ?_
  refine ev_callW (S := sh_S kp) (S2 := sh_S kp) (vs := [.int (xs (i + 1)), .int (xs (i + 2))]) (rest := [.int r]) (r := (r, D2)) (d := 800) hx hb hml hown hWm hT (by decide) (by decide) YX12_peal ml_RL_84 (mX12_peal (sh_ty hk) (sh_kM hk) h2) (by decide) 12 (sh_kM hk) rfl rfl (Nat.le_of_ble_eq_true rfl) dL_690 hC hl.1 hW hS (fun H locs hW hS => ?_)
  exact lv_icmp_eq (tgt := 1360) (off := 667) hx hb dL_693 (by decide) (fun _ => hN D2 H locs ls hI2 hW hS hl) (fun h => absurd rfl h)
set_option maxRecDepth 100000 in
theorem lc_row {p : Program} {l : Launch} {e : Env} {s : State} {m : MethodId} {below : List Frame} {meth : Method} {c : Code} {G : ev_G} {b L i kp ca sa : Nat} {xs : Nat → Int32} {Inv : Nat → ev_D → Prop} (C : lc_X p s m c G b L xs below meth) (hk : kp = 0 ∨ kp = 171) (hi : i + 6 ≤ L) (hC : ca ≤ 600000 ∧ sa ≤ 7302250) (hpl : ∀ (a1 a2 a3 : Int32) (D : ev_D), Inv kp D → ∃ (r : Int32) (D1 D2 : ev_D), fX11_row sh_L (sh_E kp) lc_fu 1 a1 a2 a3 D = some (r, D1) ∧ fX12_row sh_L (sh_E kp) lc_fu 132 a1 a2 a3 D1 = some (r, D2) ∧ Inv kp D2) (hN : lc_N Inv p l e s m below meth c G b i kp ca sa 1360) : lc_N Inv p l e s m below meth c G b i kp ca sa 698 := by
  intro D H locs ls hI hW hS hl
  obtain ⟨r, D1, D2, h1, h2, hI2⟩ := hpl (xs (i + 1)) (xs (i + 2)) (xs (i + 3)) D hI
  have hcx := C
  obtain ⟨hx, hb, hml, hown, hWm, hT, hX, hbl, hsz, hL⟩ := hcx
  refine lv_aload_n hx hb dL_698 rfl (lv_at hl 1 rfl) ?_
  refine lc_arg C 1 (by decide) hi hS hl dL_699 dL_700 dL_701 dL_702 dL_703 ?_
  refine lc_arg C 2 (by decide) hi hS hl dL_704 dL_705 dL_706 dL_707 dL_708 ?_
  refine lc_arg C 3 (by decide) hi hS hl dL_709 dL_710 dL_711 dL_712 dL_713 ?_
  refine ev_callW (S := sh_S kp) (S2 := sh_S kp) (vs := [.int (xs (i + 1)), .int (xs (i + 2)), .int (xs (i + 3))]) (rest := []) (r := (r, D1)) (d := 800) hx hb hml hown hWm hT (by decide) (by decide) YX11_row ml_RL_85 (mX11_row (sh_ty hk) (sh_k1 hk) h1) (by decide) 11 (sh_k1 hk) rfl rfl (Nat.le_of_ble_eq_true rfl) dL_714 hC hl.1 hW hS (fun H locs hW hS => ?_)
  refine lv_aload_n hx hb dL_717 rfl (lv_at hl 2 rfl) ?_
  refine lc_arg C 1 (by decide) hi hS hl dL_718 dL_719 dL_720 dL_721 dL_722 ?_
  refine lc_arg C 2 (by decide) hi hS hl dL_723 dL_724 dL_725 dL_726 dL_727 ?_
  refine lc_arg C 3 (by decide) hi hS hl dL_728 dL_729 dL_730 dL_731 dL_732 ?_
  refine ev_callW (S := sh_S kp) (S2 := sh_S kp) (vs := [.int (xs (i + 1)), .int (xs (i + 2)), .int (xs (i + 3))]) (rest := [.int r]) (r := (r, D2)) (d := 800) hx hb hml hown hWm hT (by decide) (by decide) YX12_row ml_RL_88 (mX12_row (sh_ty hk) (sh_kM hk) h2) (by decide) 12 (sh_kM hk) rfl rfl (Nat.le_of_ble_eq_true rfl) dL_733 hC hl.1 hW hS (fun H locs hW hS => ?_)
  exact lv_icmp_eq (tgt := 1360) (off := 624) hx hb dL_736 (by decide) (fun _ => hN D2 H locs ls hI2 hW hS hl) (fun h => absurd rfl h)
set_option maxRecDepth 100000 in
theorem lc_sign {p : Program} {l : Launch} {e : Env} {s : State} {m : MethodId} {below : List Frame} {meth : Method} {c : Code} {G : ev_G} {b L i kp ca sa : Nat} {xs : Nat → Int32} {Inv : Nat → ev_D → Prop} (C : lc_X p s m c G b L xs below meth) (hk : kp = 0 ∨ kp = 171) (hi : i + 6 ≤ L) (hC : ca ≤ 600000 ∧ sa ≤ 7302250) (hpl : ∀ (a1 a2 : Int32) (D : ev_D), Inv kp D → ∃ (r : Int32) (D1 D2 : ev_D), fX11_sign sh_L (sh_E kp) lc_fu 1 a1 a2 D = some (r, D1) ∧ fX12_sign sh_L (sh_E kp) lc_fu 132 a1 a2 D1 = some (r, D2) ∧ Inv kp D2) (hN : lc_N Inv p l e s m below meth c G b i kp ca sa 1360) : lc_N Inv p l e s m below meth c G b i kp ca sa 741 := by
  intro D H locs ls hI hW hS hl
  obtain ⟨r, D1, D2, h1, h2, hI2⟩ := hpl (xs (i + 1)) (xs (i + 2)) D hI
  have hcx := C
  obtain ⟨hx, hb, hml, hown, hWm, hT, hX, hbl, hsz, hL⟩ := hcx
  refine lv_aload_n hx hb dL_741 rfl (lv_at hl 1 rfl) ?_
  refine lc_arg C 1 (by decide) hi hS hl dL_742 dL_743 dL_744 dL_745 dL_746 ?_
  refine lc_arg C 2 (by decide) hi hS hl dL_747 dL_748 dL_749 dL_750 dL_751 ?_
  refine ev_callW (S := sh_S kp) (S2 := sh_S kp) (vs := [.int (xs (i + 1)), .int (xs (i + 2))]) (rest := []) (r := (r, D1)) (d := 800) hx hb hml hown hWm hT (by decide) (by decide) YX11_sign ml_RL_89 (mX11_sign (sh_ty hk) (sh_k1 hk) h1) (by decide) 11 (sh_k1 hk) rfl rfl (Nat.le_of_ble_eq_true rfl) dL_752 hC hl.1 hW hS (fun H locs hW hS => ?_)
  refine lv_aload_n hx hb dL_755 rfl (lv_at hl 2 rfl) ?_
  refine lc_arg C 1 (by decide) hi hS hl dL_756 dL_757 dL_758 dL_759 dL_760 ?_
  refine lc_arg C 2 (by decide) hi hS hl dL_761 dL_762 dL_763 dL_764 dL_765 ?_
  refine ev_callW (S := sh_S kp) (S2 := sh_S kp) (vs := [.int (xs (i + 1)), .int (xs (i + 2))]) (rest := [.int r]) (r := (r, D2)) (d := 800) hx hb hml hown hWm hT (by decide) (by decide) YX12_sign ml_RL_92 (mX12_sign (sh_ty hk) (sh_kM hk) h2) (by decide) 12 (sh_kM hk) rfl rfl (Nat.le_of_ble_eq_true rfl) dL_766 hC hl.1 hW hS (fun H locs hW hS => ?_)
  exact lv_icmp_eq (tgt := 1360) (off := 591) hx hb dL_769 (by decide) (fun _ => hN D2 H locs ls hI2 hW hS hl) (fun h => absurd rfl h)
set_option maxRecDepth 100000 in
theorem lc_meant {p : Program} {l : Launch} {e : Env} {s : State} {m : MethodId} {below : List Frame} {meth : Method} {c : Code} {G : ev_G} {b L i kp ca sa : Nat} {xs : Nat → Int32} {Inv : Nat → ev_D → Prop} (C : lc_X p s m c G b L xs below meth) (hk : kp = 0 ∨ kp = 171) (hi : i + 6 ≤ L) (hC : ca ≤ 600000 ∧ sa ≤ 7302250) (hpl : ∀ (a1 a2 : Int32) (D : ev_D), Inv kp D → ∃ (r : Int32) (D1 D2 : ev_D), fX11_meant sh_L (sh_E kp) lc_fu 1 a1 a2 D = some (r, D1) ∧ fX12_meant sh_L (sh_E kp) lc_fu 132 a1 a2 D1 = some (r, D2) ∧ Inv kp D2) (hN : lc_N Inv p l e s m below meth c G b i kp ca sa 1360) : lc_N Inv p l e s m below meth c G b i kp ca sa 774 := by
  intro D H locs ls hI hW hS hl
  obtain ⟨r, D1, D2, h1, h2, hI2⟩ := hpl (xs (i + 1)) (xs (i + 2)) D hI
  have hcx := C
  obtain ⟨hx, hb, hml, hown, hWm, hT, hX, hbl, hsz, hL⟩ := hcx
  refine lv_aload_n hx hb dL_774 rfl (lv_at hl 1 rfl) ?_
  refine lc_arg C 1 (by decide) hi hS hl dL_775 dL_776 dL_777 dL_778 dL_779 ?_
  refine lc_arg C 2 (by decide) hi hS hl dL_780 dL_781 dL_782 dL_783 dL_784 ?_
  refine ev_callW (S := sh_S kp) (S2 := sh_S kp) (vs := [.int (xs (i + 1)), .int (xs (i + 2))]) (rest := []) (r := (r, D1)) (d := 800) hx hb hml hown hWm hT (by decide) (by decide) YX11_meant ml_RL_93 (mX11_meant (sh_ty hk) (sh_k1 hk) h1) (by decide) 11 (sh_k1 hk) rfl rfl (Nat.le_of_ble_eq_true rfl) dL_785 hC hl.1 hW hS (fun H locs hW hS => ?_)
  refine lv_aload_n hx hb dL_788 rfl (lv_at hl 2 rfl) ?_
  refine lc_arg C 1 (by decide) hi hS hl dL_789 dL_790 dL_791 dL_792 dL_793 ?_
  refine lc_arg C 2 (by decide) hi hS hl dL_794 dL_795 dL_796 dL_797 dL_798 ?_
  refine ev_callW (S := sh_S kp) (S2 := sh_S kp) (vs := [.int (xs (i + 1)), .int (xs (i + 2))]) (rest := [.int r]) (r := (r, D2)) (d := 800) hx hb hml hown hWm hT (by decide) (by decide) YX12_meant ml_RL_96 (mX12_meant (sh_ty hk) (sh_kM hk) h2) (by decide) 12 (sh_kM hk) rfl rfl (Nat.le_of_ble_eq_true rfl) dL_799 hC hl.1 hW hS (fun H locs hW hS => ?_)
  exact lv_icmp_eq (tgt := 1360) (off := 558) hx hb dL_802 (by decide) (fun _ => hN D2 H locs ls hI2 hW hS hl) (fun h => absurd rfl h)
set_option maxRecDepth 100000 in
theorem lc_round {p : Program} {l : Launch} {e : Env} {s : State} {m : MethodId} {below : List Frame} {meth : Method} {c : Code} {G : ev_G} {b L i kp ca sa : Nat} {xs : Nat → Int32} {Inv : Nat → ev_D → Prop} (C : lc_X p s m c G b L xs below meth) (hk : kp = 0 ∨ kp = 171) (hi : i + 6 ≤ L) (hC : ca ≤ 600000 ∧ sa ≤ 7302250) (hpl : ∀ (a1 a2 : Int32) (D : ev_D), Inv kp D → ∃ (r : Int32) (D1 D2 : ev_D), fX11_round sh_L (sh_E kp) lc_fu 1 a1 a2 D = some (r, D1) ∧ fX12_round sh_L (sh_E kp) lc_fu 132 a1 a2 D1 = some (r, D2) ∧ Inv kp D2) (hN : lc_N Inv p l e s m below meth c G b i kp ca sa 1360) : lc_N Inv p l e s m below meth c G b i kp ca sa 807 := by
  intro D H locs ls hI hW hS hl
  obtain ⟨r, D1, D2, h1, h2, hI2⟩ := hpl (xs (i + 1)) (xs (i + 2)) D hI
  have hcx := C
  obtain ⟨hx, hb, hml, hown, hWm, hT, hX, hbl, hsz, hL⟩ := hcx
  refine lv_aload_n hx hb dL_807 rfl (lv_at hl 1 rfl) ?_
  refine lc_arg C 1 (by decide) hi hS hl dL_808 dL_809 dL_810 dL_811 dL_812 ?_
  refine lc_arg C 2 (by decide) hi hS hl dL_813 dL_814 dL_815 dL_816 dL_817 ?_
  refine ev_callW (S := sh_S kp) (S2 := sh_S kp) (vs := [.int (xs (i + 1)), .int (xs (i + 2))]) (rest := []) (r := (r, D1)) (d := 800) hx hb hml hown hWm hT (by decide) (by decide) YX11_round ml_RL_97 (mX11_round (sh_ty hk) (sh_k1 hk) h1) (by decide) 11 (sh_k1 hk) rfl rfl (Nat.le_of_ble_eq_true rfl) dL_818 hC hl.1 hW hS (fun H locs hW hS => ?_)
  refine lv_aload_n hx hb dL_821 rfl (lv_at hl 2 rfl) ?_
  refine lc_arg C 1 (by decide) hi hS hl dL_822 dL_823 dL_824 dL_825 dL_826 ?_
  refine lc_arg C 2 (by decide) hi hS hl dL_827 dL_828 dL_829 dL_830 dL_831 ?_
  refine ev_callW (S := sh_S kp) (S2 := sh_S kp) (vs := [.int (xs (i + 1)), .int (xs (i + 2))]) (rest := [.int r]) (r := (r, D2)) (d := 800) hx hb hml hown hWm hT (by decide) (by decide) YX12_round ml_RL_100 (mX12_round (sh_ty hk) (sh_kM hk) h2) (by decide) 12 (sh_kM hk) rfl rfl (Nat.le_of_ble_eq_true rfl) dL_832 hC hl.1 hW hS (fun H locs hW hS => ?_)
  exact lv_icmp_eq (tgt := 1360) (off := 525) hx hb dL_835 (by decide) (fun _ => hN D2 H locs ls hI2 hW hS hl) (fun h => absurd rfl h)
set_option maxRecDepth 100000 in
theorem lc_together {p : Program} {l : Launch} {e : Env} {s : State} {m : MethodId} {below : List Frame} {meth : Method} {c : Code} {G : ev_G} {b L i kp ca sa : Nat} {xs : Nat → Int32} {Inv : Nat → ev_D → Prop} (C : lc_X p s m c G b L xs below meth) (hk : kp = 0 ∨ kp = 171) (hi : i + 6 ≤ L) (hC : ca ≤ 600000 ∧ sa ≤ 7302250) (hpl : ∀ (a1 : Int32) (D : ev_D), Inv kp D → ∃ (r : Int32) (D1 D2 : ev_D), fX11_together sh_L (sh_E kp) lc_fu 1 a1 D = some (r, D1) ∧ fX12_together sh_L (sh_E kp) lc_fu 132 a1 D1 = some (r, D2) ∧ Inv kp D2) (hN : lc_N Inv p l e s m below meth c G b i kp ca sa 1360) : lc_N Inv p l e s m below meth c G b i kp ca sa 840 := by
  intro D H locs ls hI hW hS hl
  obtain ⟨r, D1, D2, h1, h2, hI2⟩ := hpl (xs (i + 1)) D hI
  have hcx := C
  obtain ⟨hx, hb, hml, hown, hWm, hT, hX, hbl, hsz, hL⟩ := hcx
  refine lv_aload_n hx hb dL_840 rfl (lv_at hl 1 rfl) ?_
  refine lc_arg C 1 (by decide) hi hS hl dL_841 dL_842 dL_843 dL_844 dL_845 ?_
  refine ev_callW (S := sh_S kp) (S2 := sh_S kp) (vs := [.int (xs (i + 1))]) (rest := []) (r := (r, D1)) (d := 800) hx hb hml hown hWm hT (by decide) (by decide) YX11_together ml_RL_101 (mX11_together (sh_ty hk) (sh_k1 hk) h1) (by decide) 11 (sh_k1 hk) rfl rfl (Nat.le_of_ble_eq_true rfl) dL_846 hC hl.1 hW hS (fun H locs hW hS => ?_)
  refine lv_aload_n hx hb dL_849 rfl (lv_at hl 2 rfl) ?_
  refine lc_arg C 1 (by decide) hi hS hl dL_850 dL_851 dL_852 dL_853 dL_854 ?_
  refine ev_callW (S := sh_S kp) (S2 := sh_S kp) (vs := [.int (xs (i + 1))]) (rest := [.int r]) (r := (r, D2)) (d := 800) hx hb hml hown hWm hT (by decide) (by decide) YX12_together ml_RL_104 (mX12_together (sh_ty hk) (sh_kM hk) h2) (by decide) 12 (sh_kM hk) rfl rfl (Nat.le_of_ble_eq_true rfl) dL_855 hC hl.1 hW hS (fun H locs hW hS => ?_)
  exact lv_icmp_eq (tgt := 1360) (off := 502) hx hb dL_858 (by decide) (fun _ => hN D2 H locs ls hI2 hW hS hl) (fun h => absurd rfl h)
set_option maxRecDepth 100000 in
theorem lc_hold {p : Program} {l : Launch} {e : Env} {s : State} {m : MethodId} {below : List Frame} {meth : Method} {c : Code} {G : ev_G} {b L i kp ca sa : Nat} {xs : Nat → Int32} {Inv : Nat → ev_D → Prop} (C : lc_X p s m c G b L xs below meth) (hk : kp = 0 ∨ kp = 171) (hi : i + 6 ≤ L) (hC : ca ≤ 600000 ∧ sa ≤ 7302250) (hpl : ∀ (a1 a2 a3 : Int32) (D : ev_D), Inv kp D → ∃ (r : Int32) (D1 D2 : ev_D), fX11_hold sh_L (sh_E kp) lc_fu 1 a1 a2 a3 D = some (r, D1) ∧ fX12_hold sh_L (sh_E kp) lc_fu 132 a1 a2 a3 D1 = some (r, D2) ∧ Inv kp D2) (hN : lc_N Inv p l e s m below meth c G b i kp ca sa 1360) : lc_N Inv p l e s m below meth c G b i kp ca sa 863 := by
  intro D H locs ls hI hW hS hl
  obtain ⟨r, D1, D2, h1, h2, hI2⟩ := hpl (xs (i + 1)) (xs (i + 2)) (xs (i + 3)) D hI
  have hcx := C
  obtain ⟨hx, hb, hml, hown, hWm, hT, hX, hbl, hsz, hL⟩ := hcx
  refine lv_aload_n hx hb dL_863 rfl (lv_at hl 1 rfl) ?_
  refine lc_arg C 1 (by decide) hi hS hl dL_864 dL_865 dL_866 dL_867 dL_868 ?_
  refine lc_arg C 2 (by decide) hi hS hl dL_869 dL_870 dL_871 dL_872 dL_873 ?_
  refine lc_arg C 3 (by decide) hi hS hl dL_874 dL_875 dL_876 dL_877 dL_878 ?_
  refine ev_callW (S := sh_S kp) (S2 := sh_S kp) (vs := [.int (xs (i + 1)), .int (xs (i + 2)), .int (xs (i + 3))]) (rest := []) (r := (r, D1)) (d := 800) hx hb hml hown hWm hT (by decide) (by decide) YX11_hold ml_RL_105 (mX11_hold (sh_ty hk) (sh_k1 hk) h1) (by decide) 11 (sh_k1 hk) rfl rfl (Nat.le_of_ble_eq_true rfl) dL_879 hC hl.1 hW hS (fun H locs hW hS => ?_)
  refine lv_aload_n hx hb dL_882 rfl (lv_at hl 2 rfl) ?_
  refine lc_arg C 1 (by decide) hi hS hl dL_883 dL_884 dL_885 dL_886 dL_887 ?_
  refine lc_arg C 2 (by decide) hi hS hl dL_888 dL_889 dL_890 dL_891 dL_892 ?_
  refine lc_arg C 3 (by decide) hi hS hl dL_893 dL_894 dL_895 dL_896 dL_897 ?_
  refine ev_callW (S := sh_S kp) (S2 := sh_S kp) (vs := [.int (xs (i + 1)), .int (xs (i + 2)), .int (xs (i + 3))]) (rest := [.int r]) (r := (r, D2)) (d := 800) hx hb hml hown hWm hT (by decide) (by decide) YX12_hold ml_RL_108 (mX12_hold (sh_ty hk) (sh_kM hk) h2) (by decide) 12 (sh_kM hk) rfl rfl (Nat.le_of_ble_eq_true rfl) dL_898 hC hl.1 hW hS (fun H locs hW hS => ?_)
  exact lv_icmp_eq (tgt := 1360) (off := 459) hx hb dL_901 (by decide) (fun _ => hN D2 H locs ls hI2 hW hS hl) (fun h => absurd rfl h)
set_option maxRecDepth 100000 in
theorem lc_holds {p : Program} {l : Launch} {e : Env} {s : State} {m : MethodId} {below : List Frame} {meth : Method} {c : Code} {G : ev_G} {b L i kp ca sa : Nat} {xs : Nat → Int32} {Inv : Nat → ev_D → Prop} (C : lc_X p s m c G b L xs below meth) (hk : kp = 0 ∨ kp = 171) (hi : i + 6 ≤ L) (hC : ca ≤ 600000 ∧ sa ≤ 7302250) (hpl : ∀ (a1 : Int32) (D : ev_D), Inv kp D → ∃ (r : Int32) (D1 D2 : ev_D), fX11_holds sh_L (sh_E kp) lc_fu 1 a1 D = some (r, D1) ∧ fX12_holds sh_L (sh_E kp) lc_fu 132 a1 D1 = some (r, D2) ∧ Inv kp D2) (hN : lc_N Inv p l e s m below meth c G b i kp ca sa 1360) : lc_N Inv p l e s m below meth c G b i kp ca sa 906 := by
  intro D H locs ls hI hW hS hl
  obtain ⟨r, D1, D2, h1, h2, hI2⟩ := hpl (xs (i + 1)) D hI
  have hcx := C
  obtain ⟨hx, hb, hml, hown, hWm, hT, hX, hbl, hsz, hL⟩ := hcx
  refine lv_aload_n hx hb dL_906 rfl (lv_at hl 1 rfl) ?_
  refine lc_arg C 1 (by decide) hi hS hl dL_907 dL_908 dL_909 dL_910 dL_911 ?_
  refine ev_callW (S := sh_S kp) (S2 := sh_S kp) (vs := [.int (xs (i + 1))]) (rest := []) (r := (r, D1)) (d := 800) hx hb hml hown hWm hT (by decide) (by decide) YX11_holds ml_RL_109 (mX11_holds (sh_ty hk) (sh_k1 hk) h1) (by decide) 11 (sh_k1 hk) rfl rfl (Nat.le_of_ble_eq_true rfl) dL_912 hC hl.1 hW hS (fun H locs hW hS => ?_)
  refine lv_aload_n hx hb dL_915 rfl (lv_at hl 2 rfl) ?_
  refine lc_arg C 1 (by decide) hi hS hl dL_916 dL_917 dL_918 dL_919 dL_920 ?_
  refine ev_callW (S := sh_S kp) (S2 := sh_S kp) (vs := [.int (xs (i + 1))]) (rest := [.int r]) (r := (r, D2)) (d := 800) hx hb hml hown hWm hT (by decide) (by decide) YX12_holds ml_RL_112 (mX12_holds (sh_ty hk) (sh_kM hk) h2) (by decide) 12 (sh_kM hk) rfl rfl (Nat.le_of_ble_eq_true rfl) dL_921 hC hl.1 hW hS (fun H locs hW hS => ?_)
  exact lv_icmp_eq (tgt := 1360) (off := 436) hx hb dL_924 (by decide) (fun _ => hN D2 H locs ls hI2 hW hS hl) (fun h => absurd rfl h)
set_option maxRecDepth 100000 in
theorem lc_see {p : Program} {l : Launch} {e : Env} {s : State} {m : MethodId} {below : List Frame} {meth : Method} {c : Code} {G : ev_G} {b L i kp ca sa : Nat} {xs : Nat → Int32} {Inv : Nat → ev_D → Prop} (C : lc_X p s m c G b L xs below meth) (hk : kp = 0 ∨ kp = 171) (hi : i + 6 ≤ L) (hC : ca ≤ 600000 ∧ sa ≤ 7302250) (hpl : ∀ (a1 a2 : Int32) (D : ev_D), Inv kp D → ∃ (r : Int32) (D1 D2 : ev_D), fX11_see sh_L (sh_E kp) lc_fu 1 a1 a2 D = some (r, D1) ∧ fX12_see sh_L (sh_E kp) lc_fu 132 a1 a2 D1 = some (r, D2) ∧ Inv kp D2) (hN : lc_N Inv p l e s m below meth c G b i kp ca sa 1360) : lc_N Inv p l e s m below meth c G b i kp ca sa 929 := by
  intro D H locs ls hI hW hS hl
  obtain ⟨r, D1, D2, h1, h2, hI2⟩ := hpl (xs (i + 1)) (xs (i + 2)) D hI
  have hcx := C
  obtain ⟨hx, hb, hml, hown, hWm, hT, hX, hbl, hsz, hL⟩ := hcx
  refine lv_aload_n hx hb dL_929 rfl (lv_at hl 1 rfl) ?_
  refine lc_arg C 1 (by decide) hi hS hl dL_930 dL_931 dL_932 dL_933 dL_934 ?_
  refine lc_arg C 2 (by decide) hi hS hl dL_935 dL_936 dL_937 dL_938 dL_939 ?_
  refine ev_callW (S := sh_S kp) (S2 := sh_S kp) (vs := [.int (xs (i + 1)), .int (xs (i + 2))]) (rest := []) (r := (r, D1)) (d := 800) hx hb hml hown hWm hT (by decide) (by decide) YX11_see ml_RL_113 (mX11_see (sh_ty hk) (sh_k1 hk) h1) (by decide) 11 (sh_k1 hk) rfl rfl (Nat.le_of_ble_eq_true rfl) dL_940 hC hl.1 hW hS (fun H locs hW hS => ?_)
  refine lv_aload_n hx hb dL_943 rfl (lv_at hl 2 rfl) ?_
  refine lc_arg C 1 (by decide) hi hS hl dL_944 dL_945 dL_946 dL_947 dL_948 ?_
  refine lc_arg C 2 (by decide) hi hS hl dL_949 dL_950 dL_951 dL_952 dL_953 ?_
  refine ev_callW (S := sh_S kp) (S2 := sh_S kp) (vs := [.int (xs (i + 1)), .int (xs (i + 2))]) (rest := [.int r]) (r := (r, D2)) (d := 800) hx hb hml hown hWm hT (by decide) (by decide) YX12_see ml_RL_116 (mX12_see (sh_ty hk) (sh_kM hk) h2) (by decide) 12 (sh_kM hk) rfl rfl (Nat.le_of_ble_eq_true rfl) dL_954 hC hl.1 hW hS (fun H locs hW hS => ?_)
  exact lv_icmp_eq (tgt := 1360) (off := 403) hx hb dL_957 (by decide) (fun _ => hN D2 H locs ls hI2 hW hS hl) (fun h => absurd rfl h)
set_option maxRecDepth 100000 in
theorem lc_waves {p : Program} {l : Launch} {e : Env} {s : State} {m : MethodId} {below : List Frame} {meth : Method} {c : Code} {G : ev_G} {b L i kp ca sa : Nat} {xs : Nat → Int32} {Inv : Nat → ev_D → Prop} (C : lc_X p s m c G b L xs below meth) (hk : kp = 0 ∨ kp = 171) (hi : i + 6 ≤ L) (hC : ca ≤ 600000 ∧ sa ≤ 7302250) (hpl : ∀ (a1 a2 a3 : Int32) (D : ev_D), Inv kp D → ∃ (r : Int32) (D1 D2 : ev_D), fX11_waves sh_L (sh_E kp) lc_fu 1 a1 a2 a3 D = some (r, D1) ∧ fX12_waves sh_L (sh_E kp) lc_fu 132 a1 a2 a3 D1 = some (r, D2) ∧ Inv kp D2) (hN : lc_N Inv p l e s m below meth c G b i kp ca sa 1360) : lc_N Inv p l e s m below meth c G b i kp ca sa 962 := by
  intro D H locs ls hI hW hS hl
  obtain ⟨r, D1, D2, h1, h2, hI2⟩ := hpl (xs (i + 1)) (xs (i + 2)) (xs (i + 3)) D hI
  have hcx := C
  obtain ⟨hx, hb, hml, hown, hWm, hT, hX, hbl, hsz, hL⟩ := hcx
  refine lv_aload_n hx hb dL_962 rfl (lv_at hl 1 rfl) ?_
  refine lc_arg C 1 (by decide) hi hS hl dL_963 dL_964 dL_965 dL_966 dL_967 ?_
  refine lc_arg C 2 (by decide) hi hS hl dL_968 dL_969 dL_970 dL_971 dL_972 ?_
  refine lc_arg C 3 (by decide) hi hS hl dL_973 dL_974 dL_975 dL_976 dL_977 ?_
  refine ev_callW (S := sh_S kp) (S2 := sh_S kp) (vs := [.int (xs (i + 1)), .int (xs (i + 2)), .int (xs (i + 3))]) (rest := []) (r := (r, D1)) (d := 800) hx hb hml hown hWm hT (by decide) (by decide) YX11_waves ml_RL_117 (mX11_waves (sh_ty hk) (sh_k1 hk) h1) (by decide) 11 (sh_k1 hk) rfl rfl (Nat.le_of_ble_eq_true rfl) dL_978 hC hl.1 hW hS (fun H locs hW hS => ?_)
  refine lv_aload_n hx hb dL_981 rfl (lv_at hl 2 rfl) ?_
  refine lc_arg C 1 (by decide) hi hS hl dL_982 dL_983 dL_984 dL_985 dL_986 ?_
  refine lc_arg C 2 (by decide) hi hS hl dL_987 dL_988 dL_989 dL_990 dL_991 ?_
  refine lc_arg C 3 (by decide) hi hS hl dL_992 dL_993 dL_994 dL_995 dL_996 ?_
  refine ev_callW (S := sh_S kp) (S2 := sh_S kp) (vs := [.int (xs (i + 1)), .int (xs (i + 2)), .int (xs (i + 3))]) (rest := [.int r]) (r := (r, D2)) (d := 800) hx hb hml hown hWm hT (by decide) (by decide) YX12_waves ml_RL_120 (mX12_waves (sh_ty hk) (sh_kM hk) h2) (by decide) 12 (sh_kM hk) rfl rfl (Nat.le_of_ble_eq_true rfl) dL_997 hC hl.1 hW hS (fun H locs hW hS => ?_)
  exact lv_icmp_eq (tgt := 1360) (off := 360) hx hb dL_1000 (by decide) (fun _ => hN D2 H locs ls hI2 hW hS hl) (fun h => absurd rfl h)
set_option maxRecDepth 100000 in
theorem lc_bears {p : Program} {l : Launch} {e : Env} {s : State} {m : MethodId} {below : List Frame} {meth : Method} {c : Code} {G : ev_G} {b L i kp ca sa : Nat} {xs : Nat → Int32} {Inv : Nat → ev_D → Prop} (C : lc_X p s m c G b L xs below meth) (hk : kp = 0 ∨ kp = 171) (hi : i + 6 ≤ L) (hC : ca ≤ 600000 ∧ sa ≤ 7302250) (hpl : ∀ (a1 a2 : Int32) (D : ev_D), Inv kp D → ∃ (r : Int32) (D1 D2 : ev_D), fX11_bears sh_L (sh_E kp) lc_fu 1 a1 a2 D = some (r, D1) ∧ fX12_bears sh_L (sh_E kp) lc_fu 132 a1 a2 D1 = some (r, D2) ∧ Inv kp D2) (hN : lc_N Inv p l e s m below meth c G b i kp ca sa 1360) : lc_N Inv p l e s m below meth c G b i kp ca sa 1005 := by
  intro D H locs ls hI hW hS hl
  obtain ⟨r, D1, D2, h1, h2, hI2⟩ := hpl (xs (i + 1)) (xs (i + 2)) D hI
  have hcx := C
  obtain ⟨hx, hb, hml, hown, hWm, hT, hX, hbl, hsz, hL⟩ := hcx
  refine lv_aload_n hx hb dL_1005 rfl (lv_at hl 1 rfl) ?_
  refine lc_arg C 1 (by decide) hi hS hl dL_1006 dL_1007 dL_1008 dL_1009 dL_1010 ?_
  refine lc_arg C 2 (by decide) hi hS hl dL_1011 dL_1012 dL_1013 dL_1014 dL_1015 ?_
  refine ev_callW (S := sh_S kp) (S2 := sh_S kp) (vs := [.int (xs (i + 1)), .int (xs (i + 2))]) (rest := []) (r := (r, D1)) (d := 800) hx hb hml hown hWm hT (by decide) (by decide) YX11_bears ml_RL_121 (mX11_bears (sh_ty hk) (sh_k1 hk) h1) (by decide) 11 (sh_k1 hk) rfl rfl (Nat.le_of_ble_eq_true rfl) dL_1016 hC hl.1 hW hS (fun H locs hW hS => ?_)
  refine lv_aload_n hx hb dL_1019 rfl (lv_at hl 2 rfl) ?_
  refine lc_arg C 1 (by decide) hi hS hl dL_1020 dL_1021 dL_1022 dL_1023 dL_1024 ?_
  refine lc_arg C 2 (by decide) hi hS hl dL_1025 dL_1026 dL_1027 dL_1028 dL_1029 ?_
  refine ev_callW (S := sh_S kp) (S2 := sh_S kp) (vs := [.int (xs (i + 1)), .int (xs (i + 2))]) (rest := [.int r]) (r := (r, D2)) (d := 800) hx hb hml hown hWm hT (by decide) (by decide) YX12_bears ml_RL_124 (mX12_bears (sh_ty hk) (sh_kM hk) h2) (by decide) 12 (sh_kM hk) rfl rfl (Nat.le_of_ble_eq_true rfl) dL_1030 hC hl.1 hW hS (fun H locs hW hS => ?_)
  exact lv_icmp_eq (tgt := 1360) (off := 327) hx hb dL_1033 (by decide) (fun _ => hN D2 H locs ls hI2 hW hS hl) (fun h => absurd rfl h)
set_option maxRecDepth 100000 in
theorem lc_pigeon {p : Program} {l : Launch} {e : Env} {s : State} {m : MethodId} {below : List Frame} {meth : Method} {c : Code} {G : ev_G} {b L i kp ca sa : Nat} {xs : Nat → Int32} {Inv : Nat → ev_D → Prop} (C : lc_X p s m c G b L xs below meth) (hk : kp = 0 ∨ kp = 171) (hi : i + 6 ≤ L) (hC : ca ≤ 600000 ∧ sa ≤ 7302250) (hpl : ∀ (a1 : Int32) (D : ev_D), Inv kp D → ∃ (r : Int32) (D1 D2 : ev_D), fX11_pigeon sh_L (sh_E kp) lc_fu 1 a1 D = some (r, D1) ∧ fX12_pigeon sh_L (sh_E kp) lc_fu 132 a1 D1 = some (r, D2) ∧ Inv kp D2) (hN : lc_N Inv p l e s m below meth c G b i kp ca sa 1360) : lc_N Inv p l e s m below meth c G b i kp ca sa 1038 := by
  intro D H locs ls hI hW hS hl
  obtain ⟨r, D1, D2, h1, h2, hI2⟩ := hpl (xs (i + 1)) D hI
  have hcx := C
  obtain ⟨hx, hb, hml, hown, hWm, hT, hX, hbl, hsz, hL⟩ := hcx
  refine lv_aload_n hx hb dL_1038 rfl (lv_at hl 1 rfl) ?_
  refine lc_arg C 1 (by decide) hi hS hl dL_1039 dL_1040 dL_1041 dL_1042 dL_1043 ?_
  refine ev_callW (S := sh_S kp) (S2 := sh_S kp) (vs := [.int (xs (i + 1))]) (rest := []) (r := (r, D1)) (d := 800) hx hb hml hown hWm hT (by decide) (by decide) YX11_pigeon ml_RL_125 (mX11_pigeon (sh_ty hk) (sh_k1 hk) h1) (by decide) 11 (sh_k1 hk) rfl rfl (Nat.le_of_ble_eq_true rfl) dL_1044 hC hl.1 hW hS (fun H locs hW hS => ?_)
  refine lv_aload_n hx hb dL_1047 rfl (lv_at hl 2 rfl) ?_
  refine lc_arg C 1 (by decide) hi hS hl dL_1048 dL_1049 dL_1050 dL_1051 dL_1052 ?_
  refine ev_callW (S := sh_S kp) (S2 := sh_S kp) (vs := [.int (xs (i + 1))]) (rest := [.int r]) (r := (r, D2)) (d := 800) hx hb hml hown hWm hT (by decide) (by decide) YX12_pigeon ml_RL_128 (mX12_pigeon (sh_ty hk) (sh_kM hk) h2) (by decide) 12 (sh_kM hk) rfl rfl (Nat.le_of_ble_eq_true rfl) dL_1053 hC hl.1 hW hS (fun H locs hW hS => ?_)
  exact lv_icmp_eq (tgt := 1360) (off := 304) hx hb dL_1056 (by decide) (fun _ => hN D2 H locs ls hI2 hW hS hl) (fun h => absurd rfl h)
set_option maxRecDepth 100000 in
theorem lc_best {p : Program} {l : Launch} {e : Env} {s : State} {m : MethodId} {below : List Frame} {meth : Method} {c : Code} {G : ev_G} {b L i kp ca sa : Nat} {xs : Nat → Int32} {Inv : Nat → ev_D → Prop} (C : lc_X p s m c G b L xs below meth) (hk : kp = 0 ∨ kp = 171) (hi : i + 6 ≤ L) (hC : ca ≤ 600000 ∧ sa ≤ 7302250) (hpl : ∀ (a1 a2 : Int32) (D : ev_D), Inv kp D → ∃ (r : Int32) (D1 D2 : ev_D), fX11_best sh_L (sh_E kp) lc_fu 1 a1 a2 D = some (r, D1) ∧ fX12_best sh_L (sh_E kp) lc_fu 132 a1 a2 D1 = some (r, D2) ∧ Inv kp D2) (hN : lc_N Inv p l e s m below meth c G b i kp ca sa 1360) : lc_N Inv p l e s m below meth c G b i kp ca sa 1061 := by
  intro D H locs ls hI hW hS hl
  obtain ⟨r, D1, D2, h1, h2, hI2⟩ := hpl (xs (i + 1)) (xs (i + 2)) D hI
  have hcx := C
  obtain ⟨hx, hb, hml, hown, hWm, hT, hX, hbl, hsz, hL⟩ := hcx
  refine lv_aload_n hx hb dL_1061 rfl (lv_at hl 1 rfl) ?_
  refine lc_arg C 1 (by decide) hi hS hl dL_1062 dL_1063 dL_1064 dL_1065 dL_1066 ?_
  refine lc_arg C 2 (by decide) hi hS hl dL_1067 dL_1068 dL_1069 dL_1070 dL_1071 ?_
  refine ev_callW (S := sh_S kp) (S2 := sh_S kp) (vs := [.int (xs (i + 1)), .int (xs (i + 2))]) (rest := []) (r := (r, D1)) (d := 800) hx hb hml hown hWm hT (by decide) (by decide) YX11_best ml_RL_129 (mX11_best (sh_ty hk) (sh_k1 hk) h1) (by decide) 11 (sh_k1 hk) rfl rfl (Nat.le_of_ble_eq_true rfl) dL_1072 hC hl.1 hW hS (fun H locs hW hS => ?_)
  refine lv_aload_n hx hb dL_1075 rfl (lv_at hl 2 rfl) ?_
  refine lc_arg C 1 (by decide) hi hS hl dL_1076 dL_1077 dL_1078 dL_1079 dL_1080 ?_
  refine lc_arg C 2 (by decide) hi hS hl dL_1081 dL_1082 dL_1083 dL_1084 dL_1085 ?_
  refine ev_callW (S := sh_S kp) (S2 := sh_S kp) (vs := [.int (xs (i + 1)), .int (xs (i + 2))]) (rest := [.int r]) (r := (r, D2)) (d := 800) hx hb hml hown hWm hT (by decide) (by decide) YX12_best ml_RL_132 (mX12_best (sh_ty hk) (sh_kM hk) h2) (by decide) 12 (sh_kM hk) rfl rfl (Nat.le_of_ble_eq_true rfl) dL_1086 hC hl.1 hW hS (fun H locs hW hS => ?_)
  exact lv_icmp_eq (tgt := 1360) (off := 271) hx hb dL_1089 (by decide) (fun _ => hN D2 H locs ls hI2 hW hS hl) (fun h => absurd rfl h)
set_option maxRecDepth 100000 in
theorem lc_stranger {p : Program} {l : Launch} {e : Env} {s : State} {m : MethodId} {below : List Frame} {meth : Method} {c : Code} {G : ev_G} {b L i kp ca sa : Nat} {xs : Nat → Int32} {Inv : Nat → ev_D → Prop} (C : lc_X p s m c G b L xs below meth) (hk : kp = 0 ∨ kp = 171) (hi : i + 6 ≤ L) (hC : ca ≤ 600000 ∧ sa ≤ 7302250) (hpl : ∀ (a1 a2 : Int32) (D : ev_D), Inv kp D → ∃ (r : Int32) (D1 D2 : ev_D), fX11_stranger sh_L (sh_E kp) lc_fu 1 a1 a2 D = some (r, D1) ∧ fX12_stranger sh_L (sh_E kp) lc_fu 132 a1 a2 D1 = some (r, D2) ∧ Inv kp D2) (hN : lc_N Inv p l e s m below meth c G b i kp ca sa 1360) : lc_N Inv p l e s m below meth c G b i kp ca sa 1094 := by
  intro D H locs ls hI hW hS hl
  obtain ⟨r, D1, D2, h1, h2, hI2⟩ := hpl (xs (i + 1)) (xs (i + 2)) D hI
  have hcx := C
  obtain ⟨hx, hb, hml, hown, hWm, hT, hX, hbl, hsz, hL⟩ := hcx
  refine lv_aload_n hx hb dL_1094 rfl (lv_at hl 1 rfl) ?_
  refine lc_arg C 1 (by decide) hi hS hl dL_1095 dL_1096 dL_1097 dL_1098 dL_1099 ?_
  refine lc_arg C 2 (by decide) hi hS hl dL_1100 dL_1101 dL_1102 dL_1103 dL_1104 ?_
  refine ev_callW (S := sh_S kp) (S2 := sh_S kp) (vs := [.int (xs (i + 1)), .int (xs (i + 2))]) (rest := []) (r := (r, D1)) (d := 800) hx hb hml hown hWm hT (by decide) (by decide) YX11_stranger ml_RL_133 (mX11_stranger (sh_ty hk) (sh_k1 hk) h1) (by decide) 11 (sh_k1 hk) rfl rfl (Nat.le_of_ble_eq_true rfl) dL_1105 hC hl.1 hW hS (fun H locs hW hS => ?_)
  refine lv_aload_n hx hb dL_1108 rfl (lv_at hl 2 rfl) ?_
  refine lc_arg C 1 (by decide) hi hS hl dL_1109 dL_1110 dL_1111 dL_1112 dL_1113 ?_
  refine lc_arg C 2 (by decide) hi hS hl dL_1114 dL_1115 dL_1116 dL_1117 dL_1118 ?_
  refine ev_callW (S := sh_S kp) (S2 := sh_S kp) (vs := [.int (xs (i + 1)), .int (xs (i + 2))]) (rest := [.int r]) (r := (r, D2)) (d := 800) hx hb hml hown hWm hT (by decide) (by decide) YX12_stranger ml_RL_136 (mX12_stranger (sh_ty hk) (sh_kM hk) h2) (by decide) 12 (sh_kM hk) rfl rfl (Nat.le_of_ble_eq_true rfl) dL_1119 hC hl.1 hW hS (fun H locs hW hS => ?_)
  exact lv_icmp_eq (tgt := 1360) (off := 238) hx hb dL_1122 (by decide) (fun _ => hN D2 H locs ls hI2 hW hS hl) (fun h => absurd rfl h)
set_option maxRecDepth 100000 in
theorem lc_heard {p : Program} {l : Launch} {e : Env} {s : State} {m : MethodId} {below : List Frame} {meth : Method} {c : Code} {G : ev_G} {b L i kp ca sa : Nat} {xs : Nat → Int32} {Inv : Nat → ev_D → Prop} (C : lc_X p s m c G b L xs below meth) (hk : kp = 0 ∨ kp = 171) (hi : i + 6 ≤ L) (hC : ca ≤ 600000 ∧ sa ≤ 7302250) (hpl : ∀ (a1 a2 : Int32) (D : ev_D), Inv kp D → ∃ (r : Int32) (D1 D2 : ev_D), fX11_heard sh_L (sh_E kp) lc_fu 1 a1 a2 D = some (r, D1) ∧ fX12_heard sh_L (sh_E kp) lc_fu 132 a1 a2 D1 = some (r, D2) ∧ Inv kp D2) (hN : lc_N Inv p l e s m below meth c G b i kp ca sa 1360) : lc_N Inv p l e s m below meth c G b i kp ca sa 1127 := by
  intro D H locs ls hI hW hS hl
  obtain ⟨r, D1, D2, h1, h2, hI2⟩ := hpl (xs (i + 1)) (xs (i + 2)) D hI
  have hcx := C
  obtain ⟨hx, hb, hml, hown, hWm, hT, hX, hbl, hsz, hL⟩ := hcx
  refine lv_aload_n hx hb dL_1127 rfl (lv_at hl 1 rfl) ?_
  refine lc_arg C 1 (by decide) hi hS hl dL_1128 dL_1129 dL_1130 dL_1131 dL_1132 ?_
  refine lc_arg C 2 (by decide) hi hS hl dL_1133 dL_1134 dL_1135 dL_1136 dL_1137 ?_
  refine ev_callW (S := sh_S kp) (S2 := sh_S kp) (vs := [.int (xs (i + 1)), .int (xs (i + 2))]) (rest := []) (r := (r, D1)) (d := 800) hx hb hml hown hWm hT (by decide) (by decide) YX11_heard ml_RL_137 (mX11_heard (sh_ty hk) (sh_k1 hk) h1) (by decide) 11 (sh_k1 hk) rfl rfl (Nat.le_of_ble_eq_true rfl) dL_1138 hC hl.1 hW hS (fun H locs hW hS => ?_)
  refine lv_aload_n hx hb dL_1141 rfl (lv_at hl 2 rfl) ?_
  refine lc_arg C 1 (by decide) hi hS hl dL_1142 dL_1143 dL_1144 dL_1145 dL_1146 ?_
  refine lc_arg C 2 (by decide) hi hS hl dL_1147 dL_1148 dL_1149 dL_1150 dL_1151 ?_
  refine ev_callW (S := sh_S kp) (S2 := sh_S kp) (vs := [.int (xs (i + 1)), .int (xs (i + 2))]) (rest := [.int r]) (r := (r, D2)) (d := 800) hx hb hml hown hWm hT (by decide) (by decide) YX12_heard ml_RL_140 (mX12_heard (sh_ty hk) (sh_kM hk) h2) (by decide) 12 (sh_kM hk) rfl rfl (Nat.le_of_ble_eq_true rfl) dL_1152 hC hl.1 hW hS (fun H locs hW hS => ?_)
  exact lv_icmp_eq (tgt := 1360) (off := 205) hx hb dL_1155 (by decide) (fun _ => hN D2 H locs ls hI2 hW hS hl) (fun h => absurd rfl h)
set_option maxRecDepth 100000 in
theorem lc_feeds {p : Program} {l : Launch} {e : Env} {s : State} {m : MethodId} {below : List Frame} {meth : Method} {c : Code} {G : ev_G} {b L i kp ca sa : Nat} {xs : Nat → Int32} {Inv : Nat → ev_D → Prop} (C : lc_X p s m c G b L xs below meth) (hk : kp = 0 ∨ kp = 171) (hi : i + 6 ≤ L) (hC : ca ≤ 600000 ∧ sa ≤ 7302250) (hpl : ∀ (a1 : Int32) (D : ev_D), Inv kp D → ∃ (r : Int32) (D1 D2 : ev_D), fX11_feeds sh_L (sh_E kp) lc_fu 1 a1 D = some (r, D1) ∧ fX12_feeds sh_L (sh_E kp) lc_fu 132 a1 D1 = some (r, D2) ∧ Inv kp D2) (hN : lc_N Inv p l e s m below meth c G b i kp ca sa 1360) : lc_N Inv p l e s m below meth c G b i kp ca sa 1160 := by
  intro D H locs ls hI hW hS hl
  obtain ⟨r, D1, D2, h1, h2, hI2⟩ := hpl (xs (i + 1)) D hI
  have hcx := C
  obtain ⟨hx, hb, hml, hown, hWm, hT, hX, hbl, hsz, hL⟩ := hcx
  refine lv_aload_n hx hb dL_1160 rfl (lv_at hl 1 rfl) ?_
  refine lc_arg C 1 (by decide) hi hS hl dL_1161 dL_1162 dL_1163 dL_1164 dL_1165 ?_
  refine ev_callW (S := sh_S kp) (S2 := sh_S kp) (vs := [.int (xs (i + 1))]) (rest := []) (r := (r, D1)) (d := 800) hx hb hml hown hWm hT (by decide) (by decide) YX11_feeds ml_RL_141 (mX11_feeds (sh_ty hk) (sh_k1 hk) h1) (by decide) 11 (sh_k1 hk) rfl rfl (Nat.le_of_ble_eq_true rfl) dL_1166 hC hl.1 hW hS (fun H locs hW hS => ?_)
  refine lv_aload_n hx hb dL_1169 rfl (lv_at hl 2 rfl) ?_
  refine lc_arg C 1 (by decide) hi hS hl dL_1170 dL_1171 dL_1172 dL_1173 dL_1174 ?_
  refine ev_callW (S := sh_S kp) (S2 := sh_S kp) (vs := [.int (xs (i + 1))]) (rest := [.int r]) (r := (r, D2)) (d := 800) hx hb hml hown hWm hT (by decide) (by decide) YX12_feeds ml_RL_144 (mX12_feeds (sh_ty hk) (sh_kM hk) h2) (by decide) 12 (sh_kM hk) rfl rfl (Nat.le_of_ble_eq_true rfl) dL_1175 hC hl.1 hW hS (fun H locs hW hS => ?_)
  exact lv_icmp_eq (tgt := 1360) (off := 182) hx hb dL_1178 (by decide) (fun _ => hN D2 H locs ls hI2 hW hS hl) (fun h => absurd rfl h)
set_option maxRecDepth 100000 in
theorem lc_casts {p : Program} {l : Launch} {e : Env} {s : State} {m : MethodId} {below : List Frame} {meth : Method} {c : Code} {G : ev_G} {b L i kp ca sa : Nat} {xs : Nat → Int32} {Inv : Nat → ev_D → Prop} (C : lc_X p s m c G b L xs below meth) (hk : kp = 0 ∨ kp = 171) (hi : i + 6 ≤ L) (hC : ca ≤ 600000 ∧ sa ≤ 7302250) (hpl : ∀ (a1 : Int32) (D : ev_D), Inv kp D → ∃ (r : Int32) (D1 D2 : ev_D), fX11_casts sh_L (sh_E kp) lc_fu 1 a1 D = some (r, D1) ∧ fX12_casts sh_L (sh_E kp) lc_fu 132 a1 D1 = some (r, D2) ∧ Inv kp D2) (hN : lc_N Inv p l e s m below meth c G b i kp ca sa 1360) : lc_N Inv p l e s m below meth c G b i kp ca sa 1183 := by
  intro D H locs ls hI hW hS hl
  obtain ⟨r, D1, D2, h1, h2, hI2⟩ := hpl (xs (i + 1)) D hI
  have hcx := C
  obtain ⟨hx, hb, hml, hown, hWm, hT, hX, hbl, hsz, hL⟩ := hcx
  refine lv_aload_n hx hb dL_1183 rfl (lv_at hl 1 rfl) ?_
  refine lc_arg C 1 (by decide) hi hS hl dL_1184 dL_1185 dL_1186 dL_1187 dL_1188 ?_
  refine ev_callW (S := sh_S kp) (S2 := sh_S kp) (vs := [.int (xs (i + 1))]) (rest := []) (r := (r, D1)) (d := 800) hx hb hml hown hWm hT (by decide) (by decide) YX11_casts ml_RL_145 (mX11_casts (sh_ty hk) (sh_k1 hk) h1) (by decide) 11 (sh_k1 hk) rfl rfl (Nat.le_of_ble_eq_true rfl) dL_1189 hC hl.1 hW hS (fun H locs hW hS => ?_)
  refine lv_aload_n hx hb dL_1192 rfl (lv_at hl 2 rfl) ?_
  refine lc_arg C 1 (by decide) hi hS hl dL_1193 dL_1194 dL_1195 dL_1196 dL_1197 ?_
  refine ev_callW (S := sh_S kp) (S2 := sh_S kp) (vs := [.int (xs (i + 1))]) (rest := [.int r]) (r := (r, D2)) (d := 800) hx hb hml hown hWm hT (by decide) (by decide) YX12_casts ml_RL_148 (mX12_casts (sh_ty hk) (sh_kM hk) h2) (by decide) 12 (sh_kM hk) rfl rfl (Nat.le_of_ble_eq_true rfl) dL_1198 hC hl.1 hW hS (fun H locs hW hS => ?_)
  exact lv_icmp_eq (tgt := 1360) (off := 159) hx hb dL_1201 (by decide) (fun _ => hN D2 H locs ls hI2 hW hS hl) (fun h => absurd rfl h)
set_option maxRecDepth 100000 in
theorem lc_opinion {p : Program} {l : Launch} {e : Env} {s : State} {m : MethodId} {below : List Frame} {meth : Method} {c : Code} {G : ev_G} {b L i kp ca sa : Nat} {xs : Nat → Int32} {Inv : Nat → ev_D → Prop} (C : lc_X p s m c G b L xs below meth) (hk : kp = 0 ∨ kp = 171) (hi : i + 6 ≤ L) (hC : ca ≤ 600000 ∧ sa ≤ 7302250) (hpl : ∀ (a1 a2 : Int32) (D : ev_D), Inv kp D → ∃ (r : Int32) (D1 D2 : ev_D), fX11_opinion sh_L (sh_E kp) lc_fu 1 a1 a2 D = some (r, D1) ∧ fX12_opinion sh_L (sh_E kp) lc_fu 132 a1 a2 D1 = some (r, D2) ∧ Inv kp D2) (hN : lc_N Inv p l e s m below meth c G b i kp ca sa 1360) : lc_N Inv p l e s m below meth c G b i kp ca sa 1206 := by
  intro D H locs ls hI hW hS hl
  obtain ⟨r, D1, D2, h1, h2, hI2⟩ := hpl (xs (i + 1)) (xs (i + 2)) D hI
  have hcx := C
  obtain ⟨hx, hb, hml, hown, hWm, hT, hX, hbl, hsz, hL⟩ := hcx
  refine lv_aload_n hx hb dL_1206 rfl (lv_at hl 1 rfl) ?_
  refine lc_arg C 1 (by decide) hi hS hl dL_1207 dL_1208 dL_1209 dL_1210 dL_1211 ?_
  refine lc_arg C 2 (by decide) hi hS hl dL_1212 dL_1213 dL_1214 dL_1215 dL_1216 ?_
  refine ev_callW (S := sh_S kp) (S2 := sh_S kp) (vs := [.int (xs (i + 1)), .int (xs (i + 2))]) (rest := []) (r := (r, D1)) (d := 800) hx hb hml hown hWm hT (by decide) (by decide) YX11_opinion ml_RL_149 (mX11_opinion (sh_ty hk) (sh_k1 hk) h1) (by decide) 11 (sh_k1 hk) rfl rfl (Nat.le_of_ble_eq_true rfl) dL_1217 hC hl.1 hW hS (fun H locs hW hS => ?_)
  refine lv_aload_n hx hb dL_1220 rfl (lv_at hl 2 rfl) ?_
  refine lc_arg C 1 (by decide) hi hS hl dL_1221 dL_1222 dL_1223 dL_1224 dL_1225 ?_
  refine lc_arg C 2 (by decide) hi hS hl dL_1226 dL_1227 dL_1228 dL_1229 dL_1230 ?_
  refine ev_callW (S := sh_S kp) (S2 := sh_S kp) (vs := [.int (xs (i + 1)), .int (xs (i + 2))]) (rest := [.int r]) (r := (r, D2)) (d := 800) hx hb hml hown hWm hT (by decide) (by decide) YX12_opinion ml_RL_152 (mX12_opinion (sh_ty hk) (sh_kM hk) h2) (by decide) 12 (sh_kM hk) rfl rfl (Nat.le_of_ble_eq_true rfl) dL_1231 hC hl.1 hW hS (fun H locs hW hS => ?_)
  exact lv_icmp_eq (tgt := 1360) (off := 126) hx hb dL_1234 (by decide) (fun _ => hN D2 H locs ls hI2 hW hS hl) (fun h => absurd rfl h)
set_option maxRecDepth 100000 in
theorem lc_peals {p : Program} {l : Launch} {e : Env} {s : State} {m : MethodId} {below : List Frame} {meth : Method} {c : Code} {G : ev_G} {b L i kp ca sa : Nat} {xs : Nat → Int32} {Inv : Nat → ev_D → Prop} (C : lc_X p s m c G b L xs below meth) (hk : kp = 0 ∨ kp = 171) (hi : i + 6 ≤ L) (hC : ca ≤ 600000 ∧ sa ≤ 7302250) (hpl : ∀ (a1 : Int32) (D : ev_D), Inv kp D → ∃ (r : Int32) (D1 D2 : ev_D), fX11_peals sh_L (sh_E kp) lc_fu 1 a1 D = some (r, D1) ∧ fX12_peals sh_L (sh_E kp) lc_fu 132 a1 D1 = some (r, D2) ∧ Inv kp D2) (hN : lc_N Inv p l e s m below meth c G b i kp ca sa 1360) : lc_N Inv p l e s m below meth c G b i kp ca sa 1239 := by
  intro D H locs ls hI hW hS hl
  obtain ⟨r, D1, D2, h1, h2, hI2⟩ := hpl (xs (i + 1)) D hI
  have hcx := C
  obtain ⟨hx, hb, hml, hown, hWm, hT, hX, hbl, hsz, hL⟩ := hcx
  refine lv_aload_n hx hb dL_1239 rfl (lv_at hl 1 rfl) ?_
  refine lc_arg C 1 (by decide) hi hS hl dL_1240 dL_1241 dL_1242 dL_1243 dL_1244 ?_
  refine ev_callW (S := sh_S kp) (S2 := sh_S kp) (vs := [.int (xs (i + 1))]) (rest := []) (r := (r, D1)) (d := 800) hx hb hml hown hWm hT (by decide) (by decide) YX11_peals ml_RL_153 (mX11_peals (sh_ty hk) (sh_k1 hk) h1) (by decide) 11 (sh_k1 hk) rfl rfl (Nat.le_of_ble_eq_true rfl) dL_1245 hC hl.1 hW hS (fun H locs hW hS => ?_)
  refine lv_aload_n hx hb dL_1248 rfl (lv_at hl 2 rfl) ?_
  refine lc_arg C 1 (by decide) hi hS hl dL_1249 dL_1250 dL_1251 dL_1252 dL_1253 ?_
  refine ev_callW (S := sh_S kp) (S2 := sh_S kp) (vs := [.int (xs (i + 1))]) (rest := [.int r]) (r := (r, D2)) (d := 800) hx hb hml hown hWm hT (by decide) (by decide) YX12_peals ml_RL_156 (mX12_peals (sh_ty hk) (sh_kM hk) h2) (by decide) 12 (sh_kM hk) rfl rfl (Nat.le_of_ble_eq_true rfl) dL_1254 hC hl.1 hW hS (fun H locs hW hS => ?_)
  exact lv_icmp_eq (tgt := 1360) (off := 103) hx hb dL_1257 (by decide) (fun _ => hN D2 H locs ls hI2 hW hS hl) (fun h => absurd rfl h)
set_option maxRecDepth 100000 in
theorem lc_game {p : Program} {l : Launch} {e : Env} {s : State} {m : MethodId} {below : List Frame} {meth : Method} {c : Code} {G : ev_G} {b L i kp ca sa : Nat} {xs : Nat → Int32} {Inv : Nat → ev_D → Prop} (C : lc_X p s m c G b L xs below meth) (hk : kp = 0 ∨ kp = 171) (hi : i + 6 ≤ L) (hC : ca ≤ 600000 ∧ sa ≤ 7302250) (hpl : ∀ (a1 : Int32) (D : ev_D), Inv kp D → ∃ (r : Int32) (D1 D2 : ev_D), fX11_game sh_L (sh_E kp) lc_fu 1 a1 D = some (r, D1) ∧ fX12_game sh_L (sh_E kp) lc_fu 132 a1 D1 = some (r, D2) ∧ Inv kp D2) (hN : lc_N Inv p l e s m below meth c G b i kp ca sa 1360) : lc_N Inv p l e s m below meth c G b i kp ca sa 1262 := by
  intro D H locs ls hI hW hS hl
  obtain ⟨r, D1, D2, h1, h2, hI2⟩ := hpl (xs (i + 1)) D hI
  have hcx := C
  obtain ⟨hx, hb, hml, hown, hWm, hT, hX, hbl, hsz, hL⟩ := hcx
  refine lv_aload_n hx hb dL_1262 rfl (lv_at hl 1 rfl) ?_
  refine lc_arg C 1 (by decide) hi hS hl dL_1263 dL_1264 dL_1265 dL_1266 dL_1267 ?_
  refine ev_callW (S := sh_S kp) (S2 := sh_S kp) (vs := [.int (xs (i + 1))]) (rest := []) (r := (r, D1)) (d := 800) hx hb hml hown hWm hT (by decide) (by decide) YX11_game ml_RL_157 (mX11_game (sh_ty hk) (sh_k1 hk) h1) (by decide) 11 (sh_k1 hk) rfl rfl (Nat.le_of_ble_eq_true rfl) dL_1268 hC hl.1 hW hS (fun H locs hW hS => ?_)
  refine lv_aload_n hx hb dL_1271 rfl (lv_at hl 2 rfl) ?_
  refine lc_arg C 1 (by decide) hi hS hl dL_1272 dL_1273 dL_1274 dL_1275 dL_1276 ?_
  refine ev_callW (S := sh_S kp) (S2 := sh_S kp) (vs := [.int (xs (i + 1))]) (rest := [.int r]) (r := (r, D2)) (d := 800) hx hb hml hown hWm hT (by decide) (by decide) YX12_game ml_RL_160 (mX12_game (sh_ty hk) (sh_kM hk) h2) (by decide) 12 (sh_kM hk) rfl rfl (Nat.le_of_ble_eq_true rfl) dL_1277 hC hl.1 hW hS (fun H locs hW hS => ?_)
  exact lv_icmp_eq (tgt := 1360) (off := 80) hx hb dL_1280 (by decide) (fun _ => hN D2 H locs ls hI2 hW hS hl) (fun h => absurd rfl h)
set_option maxRecDepth 100000 in
theorem lc_undo {p : Program} {l : Launch} {e : Env} {s : State} {m : MethodId} {below : List Frame} {meth : Method} {c : Code} {G : ev_G} {b L i kp ca sa : Nat} {xs : Nat → Int32} {Inv : Nat → ev_D → Prop} (C : lc_X p s m c G b L xs below meth) (hk : kp = 0 ∨ kp = 171) (hi : i + 6 ≤ L) (hC : ca ≤ 600000 ∧ sa ≤ 7302250) (hpl : ∀ (D : ev_D), Inv kp D → ∃ (r : Int32) (D1 D2 : ev_D), fX11_undo sh_L (sh_E kp) lc_fu 1  D = some (r, D1) ∧ fX12_undo sh_L (sh_E kp) lc_fu 132  D1 = some (r, D2) ∧ Inv kp D2) (hN : lc_N Inv p l e s m below meth c G b i kp ca sa 1360) : lc_N Inv p l e s m below meth c G b i kp ca sa 1285 := by
  intro D H locs ls hI hW hS hl
  obtain ⟨r, D1, D2, h1, h2, hI2⟩ := hpl  D hI
  have hcx := C
  obtain ⟨hx, hb, hml, hown, hWm, hT, hX, hbl, hsz, hL⟩ := hcx
  refine lv_aload_n hx hb dL_1285 rfl (lv_at hl 1 rfl) ?_
  refine ev_callW (S := sh_S kp) (S2 := sh_S kp) (vs := []) (rest := []) (r := (r, D1)) (d := 800) hx hb hml hown hWm hT (by decide) (by decide) YX11_undo ml_RL_161 (mX11_undo (sh_ty hk) (sh_k1 hk) h1) (by decide) 11 (sh_k1 hk) rfl rfl (Nat.le_of_ble_eq_true rfl) dL_1286 hC hl.1 hW hS (fun H locs hW hS => ?_)
  refine lv_aload_n hx hb dL_1289 rfl (lv_at hl 2 rfl) ?_
  refine ev_callW (S := sh_S kp) (S2 := sh_S kp) (vs := []) (rest := [.int r]) (r := (r, D2)) (d := 800) hx hb hml hown hWm hT (by decide) (by decide) YX12_undo ml_RL_165 (mX12_undo (sh_ty hk) (sh_kM hk) h2) (by decide) 12 (sh_kM hk) rfl rfl (Nat.le_of_ble_eq_true rfl) dL_1290 hC hl.1 hW hS (fun H locs hW hS => ?_)
  exact lv_icmp_eq (tgt := 1360) (off := 67) hx hb dL_1293 (by decide) (fun _ => hN D2 H locs ls hI2 hW hS hl) (fun h => absurd rfl h)
set_option maxRecDepth 100000 in
theorem lc_look {p : Program} {l : Launch} {e : Env} {s : State} {m : MethodId} {below : List Frame} {meth : Method} {c : Code} {G : ev_G} {b L i kp ca sa : Nat} {xs : Nat → Int32} {Inv : Nat → ev_D → Prop} (C : lc_X p s m c G b L xs below meth) (hk : kp = 0 ∨ kp = 171) (hi : i + 6 ≤ L) (hC : ca ≤ 600000 ∧ sa ≤ 7302250) (hpl : ∀ (a1 : Int32) (D : ev_D), Inv kp D → ∃ (r : Int32) (D1 D2 : ev_D), fX11_look sh_L (sh_E kp) lc_fu 1 a1 D = some (r, D1) ∧ fX12_look sh_L (sh_E kp) lc_fu 132 a1 D1 = some (r, D2) ∧ Inv kp D2) (hN : lc_N Inv p l e s m below meth c G b i kp ca sa 1360) : lc_N Inv p l e s m below meth c G b i kp ca sa 1337 := by
  intro D H locs ls hI hW hS hl
  obtain ⟨r, D1, D2, h1, h2, hI2⟩ := hpl (xs (i + 1)) D hI
  have hcx := C
  obtain ⟨hx, hb, hml, hown, hWm, hT, hX, hbl, hsz, hL⟩ := hcx
  refine lv_aload_n hx hb dL_1337 rfl (lv_at hl 1 rfl) ?_
  refine lc_arg C 1 (by decide) hi hS hl dL_1338 dL_1339 dL_1340 dL_1341 dL_1342 ?_
  refine ev_callW (S := sh_S kp) (S2 := sh_S kp) (vs := [.int (xs (i + 1))]) (rest := []) (r := (r, D1)) (d := 800) hx hb hml hown hWm hT (by decide) (by decide) YX11_look ml_RL_171 (mX11_look (sh_ty hk) (sh_k1 hk) h1) (by decide) 11 (sh_k1 hk) rfl rfl (Nat.le_of_ble_eq_true rfl) dL_1343 hC hl.1 hW hS (fun H locs hW hS => ?_)
  refine lv_aload_n hx hb dL_1346 rfl (lv_at hl 2 rfl) ?_
  refine lc_arg C 1 (by decide) hi hS hl dL_1347 dL_1348 dL_1349 dL_1350 dL_1351 ?_
  refine ev_callW (S := sh_S kp) (S2 := sh_S kp) (vs := [.int (xs (i + 1))]) (rest := [.int r]) (r := (r, D2)) (d := 800) hx hb hml hown hWm hT (by decide) (by decide) YX12_look ml_RL_174 (mX12_look (sh_ty hk) (sh_kM hk) h2) (by decide) 12 (sh_kM hk) rfl rfl (Nat.le_of_ble_eq_true rfl) dL_1352 hC hl.1 hW hS (fun H locs hW hS => ?_)
  exact lv_icmp_eq (tgt := 1360) (off := 5) hx hb dL_1355 (by decide) (fun _ => hN D2 H locs ls hI2 hW hS hl) (fun h => absurd rfl h)
