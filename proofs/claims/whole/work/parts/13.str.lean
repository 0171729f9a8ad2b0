/-! ===== two String constants: their length, chars and the place of a char ===== -/
def es_len : List Nat := [151, 10]
def es_byt : List (List Int32) := [[112, 117, 108, 108, 32, 104, 97, 114, 100, 32, 108, 111, 115, 116, 32, 119, 104, 101, 110, 32, 111, 114, 32, 97, 110, 100, 32, 110, 111, 116, 32, 102, 101, 101, 108, 32, 97, 114, 109, 32, 104, 117, 110, 103, 101, 114, 32, 116, 105, 114, 101, 100, 32, 98, 101, 108, 108, 32, 104, 101, 97, 118, 121, 32, 115, 119, 97, 121, 32, 102, 111, 108, 107, 32, 100, 114, 97, 117, 103, 104, 116, 32, 104, 111, 117, 114, 32, 102, 101, 108, 116, 32, 114, 105, 110, 103, 101, 114, 32, 102, 101, 101, 108, 115, 32, 97, 116, 32, 119, 101, 100, 100, 105, 110, 103, 32, 102, 105, 114, 101, 32, 109, 97, 114, 107, 101, 116, 32, 100, 101, 97, 116, 104, 32, 99, 104, 114, 105, 115, 116, 101, 110, 105, 110, 103, 32, 115, 119, 97, 112, 32], [59, 43, 45, 42, 47, 40, 41, 60, 61, 62]]
def es_tx (i : Nat) : String := match i with
  | 0 => "pull hard lost when or and not feel arm hunger tired bell heavy sway folk draught hour felt ringer feels at wedding fire market death christening swap "
  | _ => ";+-*/()<=>"
def es_ix0 (i : Nat) : Nat := match i with
  | 0 => 148
  | _ => 141
theorem YsJ0_length_8abf5 : ev_YV yJ0_length_8abf5 cJ0_length_8abf5 1 (some .int) 0 := ⟨⟨(mt_3 (List.mem_of_getElem? (i := 191) rfl)), (mt_1 (List.mem_of_getElem? (i := 18) rfl)), by decide +kernel, by decide⟩, (mt_3 (List.mem_of_getElem? (i := 189) rfl)), (mt_3 (List.mem_of_getElem? (i := 190) rfl))⟩
theorem YsJ0_coder_7d493 : ev_YV yJ0_coder_7d493 cJ0_coder_7d493 1 (some .byte) 0 := ⟨⟨(mt_3 (List.mem_of_getElem? (i := 195) rfl)), (mt_1 (List.mem_of_getElem? (i := 18) rfl)), by decide +kernel, by decide⟩, (mt_3 (List.mem_of_getElem? (i := 193) rfl)), (mt_3 (List.mem_of_getElem? (i := 194) rfl))⟩
theorem YsJ0_charAt_5068e : ev_YV yJ0_charAt_5068e cJ0_charAt_5068e 2 (some .char) 1 := ⟨⟨(mt_3 (List.mem_of_getElem? (i := 201) rfl)), (mt_1 (List.mem_of_getElem? (i := 18) rfl)), by decide +kernel, by decide⟩, (mt_3 (List.mem_of_getElem? (i := 199) rfl)), (mt_3 (List.mem_of_getElem? (i := 200) rfl))⟩
theorem YsJ0_isLatin1_aae02 : ev_YV yJ0_isLatin1_aae02 cJ0_isLatin1_aae02 1 (some .boolean) 0 := ⟨⟨(mt_3 (List.mem_of_getElem? (i := 205) rfl)), (mt_1 (List.mem_of_getElem? (i := 18) rfl)), by decide +kernel, by decide⟩, (mt_3 (List.mem_of_getElem? (i := 203) rfl)), (mt_3 (List.mem_of_getElem? (i := 204) rfl))⟩
theorem YsJ1_charAt_3b067 : ev_YS yJ1_charAt_3b067 cJ1_charAt_3b067 2 (some .char) 2 := ⟨⟨(mt_3 (List.mem_of_getElem? (i := 208) rfl)), (mt_1 (List.mem_of_getElem? (i := 19) rfl)), by decide +kernel, by decide⟩, (mt_3 (List.mem_of_getElem? (i := 207) rfl))⟩
theorem YsJ0_checkIndex_df160 : ev_YS yJ0_checkIndex_df160 cJ0_checkIndex_df160 2 none 2 := ⟨⟨(mt_3 (List.mem_of_getElem? (i := 211) rfl)), (mt_1 (List.mem_of_getElem? (i := 18) rfl)), by decide +kernel, by decide⟩, (mt_3 (List.mem_of_getElem? (i := 210) rfl))⟩
theorem YsJ3_checkIndex_8e157 : ev_YS yJ3_checkIndex_8e157 cJ3_checkIndex_8e157 3 (some .int) 3 := ⟨⟨(mt_3 (List.mem_of_getElem? (i := 216) rfl)), (mt_1 (List.mem_of_getElem? (i := 20) rfl)), by decide +kernel, by decide⟩, (mt_3 (List.mem_of_getElem? (i := 215) rfl))⟩
theorem YsJ0_indexOf_0f7a4 : ev_YV yJ0_indexOf_0f7a4 cJ0_indexOf_0f7a4 2 (some .int) 1 := ⟨⟨(mt_4 (List.mem_of_getElem? (i := 4) rfl)), (mt_1 (List.mem_of_getElem? (i := 18) rfl)), by decide +kernel, by decide⟩, (mt_4 (List.mem_of_getElem? (i := 2) rfl)), (mt_4 (List.mem_of_getElem? (i := 3) rfl))⟩
theorem YsJ0_indexOf_7cf53 : ev_YV yJ0_indexOf_7cf53 cJ0_indexOf_7cf53 3 (some .int) 2 := ⟨⟨(mt_4 (List.mem_of_getElem? (i := 8) rfl)), (mt_1 (List.mem_of_getElem? (i := 18) rfl)), by decide +kernel, by decide⟩, (mt_4 (List.mem_of_getElem? (i := 6) rfl)), (mt_4 (List.mem_of_getElem? (i := 7) rfl))⟩
theorem YsJ1_indexOf_4cfef : ev_YS yJ1_indexOf_4cfef cJ1_indexOf_4cfef 4 (some .int) 4 := ⟨⟨(mt_4 (List.mem_of_getElem? (i := 12) rfl)), (mt_1 (List.mem_of_getElem? (i := 19) rfl)), by decide +kernel, by decide⟩, (mt_4 (List.mem_of_getElem? (i := 11) rfl))⟩
theorem YsJ1_canEncode_9a6ad : ev_YS yJ1_canEncode_9a6ad cJ1_canEncode_9a6ad 1 (some .boolean) 1 := ⟨⟨(mt_4 (List.mem_of_getElem? (i := 15) rfl)), (mt_1 (List.mem_of_getElem? (i := 19) rfl)), by decide +kernel, by decide⟩, (mt_4 (List.mem_of_getElem? (i := 14) rfl))⟩
theorem YsJ1_indexOfChar_4cfef : ev_YS yJ1_indexOfChar_4cfef cJ1_indexOfChar_4cfef 6 (some .int) 4 := ⟨⟨(mt_4 (List.mem_of_getElem? (i := 20) rfl)), (mt_1 (List.mem_of_getElem? (i := 19) rfl)), by decide +kernel, by decide⟩, (mt_4 (List.mem_of_getElem? (i := 19) rfl))⟩
theorem fl_RJ0_38 : Cond.fieldLink RJ0 38 "java/lang/String" "COMPACT_STRINGS" "Z" ∈ lw_tbl := (mt_3 (List.mem_of_getElem? (i := 196) rfl))
theorem fl_RJ0_1053 : Cond.fieldLink RJ0 1053 "jdk/internal/util/Preconditions" "SIOOBE_FORMATTER" "Ljava/util/function/BiFunction;" ∈ lw_tbl := (mt_3 (List.mem_of_getElem? (i := 212) rfl))
theorem fl_RJ0_9 : Cond.fieldLink RJ0 9 "java/lang/String" "value" "[B" ∈ lw_tbl := (mt_9 (List.mem_of_getElem? (i := 25) rfl))
theorem fl_RJ0_15 : Cond.fieldLink RJ0 15 "java/lang/String" "coder" "B" ∈ lw_tbl := (mt_9 (List.mem_of_getElem? (i := 26) rfl))
theorem ml_RJ0_335 : Cond.methodLink RJ0 335 yJ0_coder_7d493 ∈ lw_tbl := (mt_3 (List.mem_of_getElem? (i := 192) rfl))
theorem ml_RJ0_492 : Cond.methodLink RJ0 492 yJ0_isLatin1_aae02 ∈ lw_tbl := (mt_3 (List.mem_of_getElem? (i := 202) rfl))
theorem ml_RJ0_495 : Cond.methodLink RJ0 495 yJ1_charAt_3b067 ∈ lw_tbl := (mt_3 (List.mem_of_getElem? (i := 206) rfl))
theorem ml_RJ1_9 : Cond.methodLink RJ1 9 yJ0_checkIndex_df160 ∈ lw_tbl := (mt_3 (List.mem_of_getElem? (i := 209) rfl))
theorem ml_RJ0_1059 : Cond.methodLink RJ0 1059 yJ3_checkIndex_8e157 ∈ lw_tbl := (mt_3 (List.mem_of_getElem? (i := 214) rfl))
theorem ml_RJ0_633 : Cond.methodLink RJ0 633 yJ0_indexOf_7cf53 ∈ lw_tbl := (mt_4 (List.mem_of_getElem? (i := 5) rfl))
theorem ml_RJ0_505 : Cond.methodLink RJ0 505 yJ0_length_8abf5 ∈ lw_tbl := (mt_4 (List.mem_of_getElem? (i := 9) rfl))
theorem ml_RJ0_637 : Cond.methodLink RJ0 637 yJ1_indexOf_4cfef ∈ lw_tbl := (mt_4 (List.mem_of_getElem? (i := 10) rfl))
theorem ml_RJ1_88 : Cond.methodLink RJ1 88 yJ1_canEncode_9a6ad ∈ lw_tbl := (mt_4 (List.mem_of_getElem? (i := 13) rfl))
theorem ml_RJ1_92 : Cond.methodLink RJ1 92 yJ9_max_7cf53 ∈ lw_tbl := (mt_4 (List.mem_of_getElem? (i := 16) rfl))
theorem ml_RJ1_38 : Cond.methodLink RJ1 38 yJ9_min_7cf53 ∈ lw_tbl := (mt_4 (List.mem_of_getElem? (i := 17) rfl))
theorem ml_RJ1_95 : Cond.methodLink RJ1 95 yJ1_indexOfChar_4cfef ∈ lw_tbl := (mt_4 (List.mem_of_getElem? (i := 18) rfl))
theorem ml_RX4_150 : Cond.methodLink RX4 150 yJ0_length_8abf5 ∈ lw_tbl := (mt_3 (List.mem_of_getElem? (i := 188) rfl))
theorem ml_RX4_152 : Cond.methodLink RX4 152 yJ0_charAt_5068e ∈ lw_tbl := (mt_3 (List.mem_of_getElem? (i := 198) rfl))
theorem ml_RX4_143 : Cond.methodLink RX4 143 yJ0_indexOf_0f7a4 ∈ lw_tbl := (mt_4 (List.mem_of_getElem? (i := 1) rfl))
def es_T (G : ev_G) (adK adV : Nat → Nat) : Prop := vk_S 2 es_len es_byt adK adV (fun q => gB G < q) (gS G) (gS G).heap ∧ vk_R RX4 148 (es_tx 0) (adK 0) (gS G) ∧ vk_R RX4 141 (es_tx 1) (adK 1) (gS G) ∧ va_Z "java/lang/String" "COMPACT_STRINGS" "Z" (.int 1) (fun q => gB G < q) (gS G) (gS G).heap ∧ va_Zq "jdk/internal/util/Preconditions" "SIOOBE_FORMATTER" "Ljava/util/function/BiFunction;" (fun q => gB G < q) (gS G) (gS G).heap
def es_old (G : ev_G) (H : Heap) : Prop := gB G < H.size ∧ ∀ q, q ≤ gB G → H[q]? = (gS G).heap[q]?
def es_Q (rv : Option Value) : Array Value → State → Outcome → State → Prop := fun _ st oc t => oc = .returned rv ∧ t.heap = st.heap
def es_Pc (G : ev_G) (av : List Value) : Array Value → State → Prop := va_Pc av (fun U => (gS G).WarmedH U.vm ∧ es_old G U.heap)
def es_M (G : ev_G) (d : Nat) (y : MethodName) (bs : ByteArray) (nL : Nat) (ret : Option FieldType) (av : List Value) (rv : Option Value) : Prop := ∀ (l : Launch), Met l y [.code y bs nL ret] { frames := d, cells := 0, slots := 0, locals := 100 * d } (es_Pc G av) (es_Q rv) 0 0 (fun _ => False)
def es_cx (own : String) (cc : ByteArray) (nL d : Nat) (ret : Option FieldType) (p : Program) (R : Room) (s : State) (m : MethodId) (meth : Method) (c : Code) (G : ev_G) (adK adV : Nat → Nat) : Prop :=
  (p.tables.exec = Jvm.exec ∧ c.code = cc ∧ c.maxLocals = nL ∧ s.vm.findClass own = some m.cls ∧ (gS G).WarmedH s.vm ∧ ev_T G) ∧ (R.frames = d ∧ R.locals = 100 * d ∧ R.cells = 0 ∧ R.slots = 0) ∧ es_old G s.heap ∧ meth.sig.returnType = ret ∧ meth.locks = false ∧
  vk_S 2 es_len es_byt adK adV (fun q => gB G < q) s s.heap ∧ va_Z "java/lang/String" "COMPACT_STRINGS" "Z" (.int 1) (fun q => gB G < q) s s.heap ∧ va_Zq "jdk/internal/util/Preconditions" "SIOOBE_FORMATTER" "Ljava/util/function/BiFunction;" (fun q => gB G < q) s s.heap
theorem es_kept {G : ev_G} {H : Heap} (hT : ev_T G) (h : es_old G H) : ∀ a : Nat, a < (gS G).heap.size → ¬ gB G < a → H[a]? = (gS G).heap[a]? := fun a _ h2 => h.2 a (Nat.le_of_not_lt h2)
theorem es_met {G : ev_G} {adK adV : Nat → Nat} (hT : ev_T G) (hE : es_T G adK adV) {d : Nat} {y : MethodName} {cc : ByteArray} {nL : Nat} {ret : Option FieldType} {av : List Value} {rv : Option Value} (hy : plainFor y = true) (hlen : (lg_sl av).length ≤ nL)
    (h : ∀ (p : Program) (l : Launch) (e : Env) (R : Room) (s : State) (m : MethodId) (args : Array Value) (below : List Frame) (meth : Method) (c : Code) (ls : Array Slot), es_cx y.cls cc nL d ret p R s m meth c G adK adV → lv_has ls nL (lv_args 0 av) → W p l e R s m args below meth c s.heap [] 0 0 (MQ below (es_Q rv) args s 0 0 (fun _ => False)) (F0 m 0 ls [])) : es_M G d y cc nL ret av rv := by
  intro l
  refine ev_ofW (cc := cc) (maxL := nL) (ret := ret) hy rfl ?_
  intro p e s m args below meth c s₁ B hml hv
  obtain ⟨rfl, hWm, hO⟩ := hv
  obtain ⟨e1, -, -, e4, e5⟩ := hE
  have hk := es_kept hT hO
  rw [lg_entry_eq]
  exact h p l e _ s m _ below meth c _ ⟨⟨B.exec, B.bytes, hml, findClass_of_methodNamed B.named, hWm, hT⟩, ⟨rfl, rfl, rfl, rfl⟩, hO, B.returns, B.notSynchronized, (e1.moved hWm.alike).kept hk, (e4.moved hWm.alike).kept hk, (e5.moved hWm.alike).kept hk⟩ (lv_entry av hlen)
section Str
variable {p : Program} {l : Launch} {e : Env} {R : Room} {s : State} {m : MethodId} {args : Array Value} {below : List Frame} {meth : Method} {c : Code} {G : ev_G} {Q : State → Prop} {H : Heap} {locs : List Loc} {cells slots : Nat}
theorem es_after {pc : Nat} {ls : Array Slot} {st0 rest : List Value} {rv : Option Value} {a : Array Value}
    (hr : va_Run p l e R s m args below meth c H locs cells slots 0 0 (F0 m pc ls st0) rest (es_Q rv a) (fun _ => False))
    (kk : W p l e R s m args below meth c H locs cells slots Q (F0 m (pc + 3) ls (rv.toList ++ rest))) : W p l e R s m args below meth c H locs cells slots Q (F0 m pc ls st0) := by
  intro T hT X
  obtain ⟨v, st₀, t, T', L, h0, X', hL, e1, e2, ⟨hv, hh⟩, stp⟩ := hr T hT X
  cases hv
  obtain ⟨t2, a1, b1⟩ := kk T' (by rw [e1, hh, h0]) (Stand.forget X' (fun q h => (hL q h).elim))
  exact ⟨t2, stp t2 a1, b1⟩
theorem es_blind {av : List Value} : FrameBlind (es_Pc G av) := fun a U g mk q => ⟨q.1, q.2.1, q.2.2⟩
/-- a static call among them -/
theorem es_callS {own : String} {cc : ByteArray} {nL d d2 mL n idx pc : Nat} {ls : Array Slot} {y : MethodName} {bs : ByteArray} {ret : Option FieldType} {As rest : List Value} {rv : Option Value} (hx : p.tables.exec = Jvm.exec) (hb : c.code = cc) (hml : c.maxLocals = nL) (hown : s.vm.findClass own = some m.cls) (hWm : (gS G).WarmedH s.vm) (hT : ev_T G) (hO : es_old G H) (hR1 : d ≤ R.frames) (hR2 : 100 * d ≤ R.locals) (hc1 : cells ≤ R.cells) (hc2 : slots ≤ R.slots) (hls : ls.size = nL)
    (hY : ev_YS y bs mL ret n) (hl : Cond.methodLink own idx y ∈ lw_tbl) (hM : es_M G d2 y bs mL ret As rv) (hd : d2 + 1 ≤ d) (hn : As.length = n) (hst : (rest.map fun v => v.category).sum ≤ 8) (hdg : decode cc pc = .ok (.invokestatic idx, 3))
    (kk : W p l e R s m args below meth c H locs cells slots Q (F0 m (pc + 3) ls (rv.toList ++ rest))) : W p l e R s m args below meth c H locs cells slots Q (F0 m pc ls (As.reverse ++ rest)) := by
  obtain ⟨⟨y1, y2, y3, y4⟩, y5⟩ := hY
  refine es_after (va_runS (As := As) (rest := rest) (n := n) (mc := 0) (ms := 0) (maxL := mL) (bytes := bs) (ret := ret) (Ts := []) ⟨hx, hb, hml, hown, fun w h => by cases h⟩ (hM l)
    ⟨⟨rfl, rfl, by show d2 + 1 ≤ R.frames; omega, by show 8 + (mL + 11) + 100 * d2 ≤ R.locals; omega, ev_pay hT hWm ⟨y1, y2, y3, y4⟩, List.mem_cons_self, ev_word hT hWm y1 rfl args, ev_word hT hWm y2 rfl args, ⟨y3.1, y3.2.1⟩, fun sig h => by have h2 := y3.2.2; rw [h] at h2; exact (Option.some.inj h2).symm, ev_word hT hWm hl rfl args⟩, ev_word hT hWm y5 rfl args⟩
    ⟨es_blind, fun U hU hWU => ⟨rfl, State.WarmedH.trans hWm hWU, by rw [hU]; exact hO⟩⟩ rfl hn hls rfl (lv_room hst) hdg ⟨hc1, hc2⟩) kk
/-- of a String's method -/
theorem es_callV {own : String} {cc : ByteArray} {nL d d2 mL n idx pc b : Nat} {ls : Array Slot} {y : MethodName} {bs : ByteArray} {ret : Option FieldType} {As rest : List Value} {rv : Option Value} (hx : p.tables.exec = Jvm.exec) (hb : c.code = cc) (hml : c.maxLocals = nL) (hown : s.vm.findClass own = some m.cls) (hWm : (gS G).WarmedH s.vm) (hT : ev_T G) (hO : es_old G H) (hR1 : d ≤ R.frames) (hR2 : 100 * d ≤ R.locals) (hc1 : cells ≤ R.cells) (hc2 : slots ≤ R.slots) (hls : ls.size = nL)
    (hY : ev_YV y bs mL ret n) (hl : Cond.methodLink own idx y ∈ lw_tbl) (hM : es_M G d2 y bs mL ret (.ref b :: As) rv) (hd : d2 + 1 ≤ d) (hrc : ∃ cell : Cell, H[b]? = some cell ∧ cell.vm.isStatics = false ∧ s.vm.findClass y.cls = some cell.cls) (hn : As.length = n) (hst : (rest.map fun v => v.category).sum ≤ 8) (hdg : decode cc pc = .ok (.invokevirtual idx, 3))
    (kk : W p l e R s m args below meth c H locs cells slots Q (F0 m (pc + 3) ls (rv.toList ++ rest))) : W p l e R s m args below meth c H locs cells slots Q (F0 m pc ls (As.reverse ++ .ref b :: rest)) := by
  obtain ⟨⟨y1, y2, y3, y4⟩, y5, y6⟩ := hY
  refine es_after (va_runV (C := y.cls) (b := b) (As := As) (rest := rest) (n := n) (mc := 0) (ms := 0) (maxL := mL) (bytes := bs) (ret := ret) (Ts := []) ⟨hx, hb, hml, hown, fun w h => by cases h⟩ (hM l)
    ⟨⟨rfl, rfl, by show d2 + 1 ≤ R.frames; omega, by show 8 + (mL + 11) + 100 * d2 ≤ R.locals; omega, ev_pay hT hWm ⟨y1, y2, y3, y4⟩, List.mem_cons_self, ev_word hT hWm y1 rfl args, ev_word hT hWm y2 rfl args, ⟨y3.1, y3.2.1⟩, fun sig h => by have h2 := y3.2.2; rw [h] at h2; exact (Option.some.inj h2).symm, ev_word hT hWm hl rfl args⟩, ev_word hT hWm y5 rfl args, ev_word hT hWm y6 rfl args⟩
    ⟨es_blind, hrc, fun U hU hWU => ⟨rfl, State.WarmedH.trans hWm hWU, by rw [hU]; exact hO⟩⟩ rfl hn hls rfl (lv_room hst) hdg ⟨hc1, hc2⟩) kk
end Str
section Str2
theorem es_coder {G : ev_G} {adK adV : Nat → Nat} (hT : ev_T G) (hE : es_T G adK adV) {i : Nat} (hi : i < 2) : es_M G 0 yJ0_coder_7d493 cJ0_coder_7d493 1 (some .byte) [.ref (adK i)] (some (.int 0)) := by
  refine es_met hT hE (plainFor_of_name (by decide)) (Nat.le_of_ble_eq_true rfl) ?_
  intro p l e R s m args below meth c ls hcx hl
  obtain ⟨⟨hx, hb, hml, hown, hWm, hTT⟩, -, hO, hr, hlocks, hS2, hZ1, hZ2⟩ := hcx
  have hl : lv_has ls 1 [(0, .ref (adK i))] := hl
  have hS : va_S (fun q => gB G < q) s.heap s.heap [] := va_S.rf
  refine va_gets hx hb hZ1 hS hown (ev_word hTT hWm fl_RJ0_38 rfl args) (fun _ h => h) (by decide +kernel) ?_
  refine lv_if_eq (tgt := 13) (off := 10) hx hb (by decide +kernel) (by decide) (fun h => absurd h (by decide)) (fun _ => ?_)
  refine lv_aload_n (k := 0) hx hb (by decide +kernel) rfl (lv_at hl 0 rfl) ?_
  refine vk_getf hx hb (hS2.1 i hi).2.1 hS hown (ev_word hTT hWm fl_RJ0_15 rfl args) (fun _ h => h) (by decide +kernel) ?_
  refine lv_goto (tgt := 14) (off := 4) hx hb (by decide +kernel) (by decide) ?_
  exact W.zret (v := 0) hx hb hr rfl (fun t ht _ => ⟨rfl, ht⟩) (fun q h => by cases h) (by decide +kernel)
theorem es_latin {G : ev_G} {adK adV : Nat → Nat} (hT : ev_T G) (hE : es_T G adK adV) {i : Nat} (hi : i < 2) : es_M G 0 yJ0_isLatin1_aae02 cJ0_isLatin1_aae02 1 (some .boolean) [.ref (adK i)] (some (.int 1)) := by
  refine es_met hT hE (plainFor_of_name (by decide)) (Nat.le_of_ble_eq_true rfl) ?_
  intro p l e R s m args below meth c ls hcx hl
  obtain ⟨⟨hx, hb, hml, hown, hWm, hTT⟩, -, hO, hr, hlocks, hS2, hZ1, hZ2⟩ := hcx
  have hl : lv_has ls 1 [(0, .ref (adK i))] := hl
  have hS : va_S (fun q => gB G < q) s.heap s.heap [] := va_S.rf
  refine va_gets hx hb hZ1 hS hown (ev_word hTT hWm fl_RJ0_38 rfl args) (fun _ h => h) (by decide +kernel) ?_
  refine lv_if_eq (tgt := 17) (off := 14) hx hb (by decide +kernel) (by decide) (fun h => absurd h (by decide)) (fun _ => ?_)
  refine lv_aload_n (k := 0) hx hb (by decide +kernel) rfl (lv_at hl 0 rfl) ?_
  refine vk_getf hx hb (hS2.1 i hi).2.1 hS hown (ev_word hTT hWm fl_RJ0_15 rfl args) (fun _ h => h) (by decide +kernel) ?_
  refine lv_if_ne (tgt := 17) (off := 7) hx hb (by decide +kernel) (by decide) (fun h => absurd rfl h) (fun _ => ?_)
  refine lv_iconst (n := 1) (v := 1) hx hb (by decide +kernel) (by decide) ?_
  refine lv_goto (tgt := 18) (off := 4) hx hb (by decide +kernel) (by decide) ?_
  exact W.zret (v := 1) hx hb hr rfl (fun t ht _ => ⟨rfl, ht⟩) (fun q h => by cases h) (by decide +kernel)
theorem es_length {G : ev_G} {adK adV : Nat → Nat} (hT : ev_T G) (hE : es_T G adK adV) {i : Nat} (hi : i < 2) : es_M G 1 yJ0_length_8abf5 cJ0_length_8abf5 1 (some .int) [.ref (adK i)] (some (.int (nI (es_len.getD i 0)))) := by
  refine es_met hT hE (plainFor_of_name (by decide)) (Nat.le_of_ble_eq_true rfl) ?_
  intro p l e R s m args below meth c ls hcx hl
  obtain ⟨⟨hx, hb, hml, hown, hWm, hTT⟩, ⟨r1, r2, r3, r4⟩, hO, hr, hlocks, hS2, hZ1, hZ2⟩ := hcx
  have hl : lv_has ls 1 [(0, .ref (adK i))] := hl
  have hS : va_S (fun q => gB G < q) s.heap s.heap [] := va_S.rf
  refine lv_aload_n (k := 0) hx hb (by decide +kernel) rfl (lv_at hl 0 rfl) ?_
  refine vk_getf hx hb (hS2.1 i hi).2.2.1 hS hown (ev_word hTT hWm fl_RJ0_9 rfl args) (fun _ h => h) (by decide +kernel) ?_
  refine va_tlen hx hb (hS2.1 i hi).2.2.2 hS rfl (by decide +kernel) ?_
  refine lv_aload_n (k := 0) hx hb (by decide +kernel) rfl (lv_at hl 0 rfl) ?_
  refine es_callV (As := []) (d := 1) hx hb hml hown hWm hTT hO (by omega) (by omega) (by omega) (by omega) hl.1 YsJ0_coder_7d493 ml_RJ0_335 (es_coder hT hE hi) (by decide) (vk_recv hS2 hi hS) rfl (Nat.le_of_ble_eq_true rfl) (by decide +kernel) ?_
  refine lv_ishr hx hb (by decide +kernel) ?_
  have e1 : nI (es_len.getD i 0) >>> ((0 : Int32) &&& 31) = nI (es_len.getD i 0) := by
    match i, hi with
    | 0, _ => decide
    | 1, _ => decide
  have e2 : (Int32.ofNat (es_len.getD i 0)) >>> ((0 : Int32) &&& 31) = nI (es_len.getD i 0) := e1
  rw [e2]
  exact W.iret hx hb hr (fun t ht _ => ⟨rfl, ht⟩) (fun q h => by cases h) (by decide +kernel)
theorem es_chk3 {G : ev_G} {adK adV : Nat → Nat} (hT : ev_T G) (hE : es_T G adK adV) {a n : Int32} {w : Value} (hw : w = .null ∨ ∃ q, w = .ref q) (h0 : ¬ a < 0) (h1 : a < n) : es_M G 0 yJ3_checkIndex_8e157 cJ3_checkIndex_8e157 3 (some .int) [.int a, .int n, w] (some (.int a)) := by
  have hcat : w.category = 1 := by rcases hw with rfl | ⟨q, rfl⟩ <;> rfl
  refine es_met hT hE (plainFor_of_name (by decide)) (by rcases hw with rfl | ⟨q, rfl⟩ <;> exact Nat.le_of_ble_eq_true rfl) ?_
  intro p l e R s m args below meth c ls hcx hl
  obtain ⟨⟨hx, hb, hml, hown, hWm, hTT⟩, -, hO, hr, hlocks, hS2, hZ1, hZ2⟩ := hcx
  have hl : lv_has ls 3 [(0, .int a), (1, .int n), (2, w)] := hl
  refine lv_iload_n (k := 0) hx hb (by decide +kernel) rfl (lv_at hl 0 rfl) ?_
  refine lv_if_lt (tgt := 9) (off := 8) hx hb (by decide +kernel) (by decide) (fun h => absurd h h0) (fun _ => ?_)
  refine lv_iload_n (k := 0) hx hb (by decide +kernel) rfl (lv_at hl 0 rfl) ?_
  refine lv_iload_n (k := 1) hx hb (by decide +kernel) rfl (lv_at hl 1 rfl) ?_
  refine lv_icmp_lt (tgt := 16) (off := 10) hx hb (by decide +kernel) (by decide) (fun _ => ?_) (fun h => absurd h1 h)
  refine lv_iload_n (k := 0) hx hb (by decide +kernel) rfl (lv_at hl 0 rfl) ?_
  exact W.iret hx hb hr (fun t ht _ => ⟨rfl, ht⟩) (fun q h => by cases h) (by decide +kernel)
theorem es_chk0 {G : ev_G} {adK adV : Nat → Nat} (hT : ev_T G) (hE : es_T G adK adV) {a n : Int32} (h0 : ¬ a < 0) (h1 : a < n) : es_M G 1 yJ0_checkIndex_df160 cJ0_checkIndex_df160 2 none [.int a, .int n] none := by
  refine es_met hT hE (plainFor_of_name (by decide)) (Nat.le_of_ble_eq_true rfl) ?_
  intro p l e R s m args below meth c ls hcx hl
  obtain ⟨⟨hx, hb, hml, hown, hWm, hTT⟩, ⟨r1, r2, r3, r4⟩, hO, hr, hlocks, hS2, hZ1, hZ2⟩ := hcx
  have hl : lv_has ls 2 [(0, .int a), (1, .int n)] := hl
  have hS : va_S (fun q => gB G < q) s.heap s.heap [] := va_S.rf
  refine lv_iload_n (k := 0) hx hb (by decide +kernel) rfl (lv_at hl 0 rfl) ?_
  refine lv_iload_n (k := 1) hx hb (by decide +kernel) rfl (lv_at hl 1 rfl) ?_
  obtain ⟨w, hw, hz⟩ : ∃ w : Value, (w = .null ∨ ∃ q, w = .ref q) ∧ va_Z "jdk/internal/util/Preconditions" "SIOOBE_FORMATTER" "Ljava/util/function/BiFunction;" w (fun q => gB G < q) s s.heap := by
    rcases hZ2 with h | ⟨t, h⟩
    · exact ⟨.null, Or.inl rfl, h⟩
    · exact ⟨.ref t, Or.inr ⟨t, rfl⟩, h⟩
  refine va_gets hx hb hz hS hown (ev_word hTT hWm fl_RJ0_1053 rfl args) (fun _ h => h) (by decide +kernel) ?_
  refine es_callS (As := [.int a, .int n, w]) (rest := []) (d := 1) hx hb hml hown hWm hTT hO (by omega) (by omega) (by omega) (by omega) hl.1 YsJ3_checkIndex_8e157 ml_RJ0_1059 (es_chk3 hT hE hw h0 h1) (by decide) rfl (Nat.le_of_ble_eq_true rfl) (by decide +kernel) ?_
  refine lv_pop hx hb (by decide +kernel) rfl ?_
  exact W.vret hx hb hr (fun t ht _ => ⟨rfl, ht⟩) (fun q h => by cases h) (by decide +kernel)
theorem es_byte {i : Nat} (hi : i < 2) {k : Nat} (hk : k < es_len.getD i 0) : ((es_byt.getD i []).getD k 0 &&& 255) = (es_byt.getD i []).getD k 0 ∧ ((es_byt.getD i []).getD k 0).toInt8.toInt32 = (es_byt.getD i []).getD k 0 ∧ ((((es_byt.getD i []).getD k 0 &&& 255).toUInt32 % 65536).toInt32) = (es_byt.getD i []).getD k 0 := by
  have h : ∀ i, i < 2 → ∀ k, k < es_len.getD i 0 → ((es_byt.getD i []).getD k 0 &&& 255) = (es_byt.getD i []).getD k 0 ∧ ((es_byt.getD i []).getD k 0).toInt8.toInt32 = (es_byt.getD i []).getD k 0 ∧ ((((es_byt.getD i []).getD k 0 &&& 255).toUInt32 % 65536).toInt32) = (es_byt.getD i []).getD k 0 := by decide +kernel
  exact h i hi k hk
theorem es_lenlt {i : Nat} (hi : i < 2) : es_len.getD i 0 < 2 ^ 31 := by
  match i, hi with
  | 0, _ => decide
  | 1, _ => decide
theorem es_lchar {G : ev_G} {adK adV : Nat → Nat} (hT : ev_T G) (hE : es_T G adK adV) {i : Nat} (hi : i < 2) {k : Nat} (hk : k < es_len.getD i 0) : es_M G 2 yJ1_charAt_3b067 cJ1_charAt_3b067 2 (some .char) [.ref (adV i), .int (nI k)] (some (.int ((es_byt.getD i []).getD k 0))) := by
  refine es_met hT hE (plainFor_of_name (by decide)) (Nat.le_of_ble_eq_true rfl) ?_
  intro p l e R s m args below meth c ls hcx hl
  obtain ⟨⟨hx, hb, hml, hown, hWm, hTT⟩, ⟨r1, r2, r3, r4⟩, hO, hr, hlocks, hS2, hZ1, hZ2⟩ := hcx
  have hl : lv_has ls 2 [(0, .ref (adV i)), (1, .int (nI k))] := hl
  have hS : va_S (fun q => gB G < q) s.heap s.heap [] := va_S.rf
  have hll := es_lenlt hi
  refine lv_iload_n (k := 1) hx hb (by decide +kernel) rfl (lv_at hl 1 rfl) ?_
  refine lv_aload_n (k := 0) hx hb (by decide +kernel) rfl (lv_at hl 0 rfl) ?_
  refine va_tlen (v := nI (es_len.getD i 0)) hx hb (hS2.1 i hi).2.2.2 hS rfl (by decide +kernel) ?_
  refine es_callS (As := [.int (nI k), .int (nI (es_len.getD i 0))]) (rest := []) (d := 2) hx hb hml hown hWm hTT hO (by omega) (by omega) (by omega) (by omega) hl.1 YsJ0_checkIndex_df160 ml_RJ1_9 (es_chk0 hT hE (nI_pos (by omega)) (nI_lt hk hll)) (by decide) rfl (Nat.le_of_ble_eq_true rfl) (by decide +kernel) ?_
  refine lv_aload_n (k := 0) hx hb (by decide +kernel) rfl (lv_at hl 0 rfl) ?_
  refine lv_iload_n (k := 1) hx hb (by decide +kernel) rfl (lv_at hl 1 rfl) ?_
  refine va_tb (v := .int ((es_byt.getD i []).getD k 0)) hx hb (hS2.1 i hi).2.2.2 hS (vp_in_nI hk hll) (by show Value.int ((es_byt.getD i []).getD (nI k).toNatClampNeg 0) = _; rw [nI_clamp (by omega)]) (by decide +kernel) ?_
  refine lv_sipush (n := 255) (v := 255) hx hb (by decide +kernel) (by decide) ?_
  refine lv_iand hx hb (by decide +kernel) ?_
  refine lv_i2c (v := (es_byt.getD i []).getD k 0) hx hb (by decide +kernel) (es_byte hi hk).2.2 ?_
  have hnc : narrow .char (.int ((es_byt.getD i []).getD k 0)) = .int ((es_byt.getD i []).getD k 0) := by
    rw [← (es_byte hi hk).2.2]; exact pk_nc _
  exact W.zret hx hb hr hnc (fun t ht _ => ⟨rfl, ht⟩) (fun q h => by cases h) (by decide +kernel)
theorem es_char {G : ev_G} {adK adV : Nat → Nat} (hT : ev_T G) (hE : es_T G adK adV) {i : Nat} (hi : i < 2) {k : Nat} (hk : k < es_len.getD i 0) : es_M G 3 yJ0_charAt_5068e cJ0_charAt_5068e 2 (some .char) [.ref (adK i), .int (nI k)] (some (.int ((es_byt.getD i []).getD k 0))) := by
  refine es_met hT hE (plainFor_of_name (by decide)) (Nat.le_of_ble_eq_true rfl) ?_
  intro p l e R s m args below meth c ls hcx hl
  obtain ⟨⟨hx, hb, hml, hown, hWm, hTT⟩, ⟨r1, r2, r3, r4⟩, hO, hr, hlocks, hS2, hZ1, hZ2⟩ := hcx
  have hl : lv_has ls 2 [(0, .ref (adK i)), (1, .int (nI k))] := hl
  have hS : va_S (fun q => gB G < q) s.heap s.heap [] := va_S.rf
  refine lv_aload_n (k := 0) hx hb (by decide +kernel) rfl (lv_at hl 0 rfl) ?_
  refine es_callV (As := []) (rest := []) (d := 3) hx hb hml hown hWm hTT hO (by omega) (by omega) (by omega) (by omega) hl.1 YsJ0_isLatin1_aae02 ml_RJ0_492 (es_latin hT hE hi) (by decide) (vk_recv hS2 hi hS) rfl (Nat.le_of_ble_eq_true rfl) (by decide +kernel) ?_
  refine lv_if_eq (tgt := 16) (off := 12) hx hb (by decide +kernel) (by decide) (fun h => absurd h (by decide)) (fun _ => ?_)
  refine lv_aload_n (k := 0) hx hb (by decide +kernel) rfl (lv_at hl 0 rfl) ?_
  refine vk_getf hx hb (hS2.1 i hi).2.2.1 hS hown (ev_word hTT hWm fl_RJ0_9 rfl args) (fun _ h => h) (by decide +kernel) ?_
  refine lv_iload_n (k := 1) hx hb (by decide +kernel) rfl (lv_at hl 1 rfl) ?_
  refine es_callS (As := [.ref (adV i), .int (nI k)]) (rest := []) (d := 3) hx hb hml hown hWm hTT hO (by omega) (by omega) (by omega) (by omega) hl.1 YsJ1_charAt_3b067 ml_RJ0_495 (es_lchar hT hE hi hk) (by decide) rfl (Nat.le_of_ble_eq_true rfl) (by decide +kernel) ?_
  have hnc : narrow .char (.int ((es_byt.getD i []).getD k 0)) = .int ((es_byt.getD i []).getD k 0) := by
    rw [← (es_byte hi hk).2.2]; exact pk_nc _
  exact W.zret hx hb hr hnc (fun t ht _ => ⟨rfl, ht⟩) (fun q h => by cases h) (by decide +kernel)
end Str2
