theorem es_mxs : Cond.static Lib.Math.max.name ∈ lw_tbl := (mt_1 (List.mem_of_getElem? (i := 128) rfl))
theorem es_mns : Cond.static Lib.Math.min.name ∈ lw_tbl := (mt_3 (List.mem_of_getElem? (i := 29) rfl))
theorem es_mai : Cond.initialized "java/lang/Math" ∈ lw_tbl := (mt_1 (List.mem_of_getElem? (i := 6) rfl))
theorem es_mxc : Cond.code Lib.Math.max.name Lib.Math.max.code 2 (some .int) ∈ lw_tbl := (mt_1 (List.mem_of_getElem? (i := 129) rfl))
theorem es_mnc : Cond.code Lib.Math.min.name Lib.Math.min.code 2 (some .int) ∈ lw_tbl := (mt_3 (List.mem_of_getElem? (i := 30) rfl))
theorem es_sr0 : Cond.stringRef RX4 148 (es_tx 0) ∈ lw_tbl := (mt_3 (List.mem_of_getElem? (i := 187) rfl))
theorem es_sr1 : Cond.stringRef RX4 141 (es_tx 1) ∈ lw_tbl := (mt_4 (List.mem_of_getElem? (i := 0) rfl))
theorem es_ls1 : Cond.laysStatic "java/lang/String" "COMPACT_STRINGS" "Z" ∈ lw_tbl := (mt_3 (List.mem_of_getElem? (i := 197) rfl))
theorem es_ls2 : Cond.laysStatic "jdk/internal/util/Preconditions" "SIOOBE_FORMATTER" "Ljava/util/function/BiFunction;" ∈ lw_tbl := (mt_3 (List.mem_of_getElem? (i := 213) rfl))
theorem es_in1 : Cond.initialized "java/lang/String" ∈ lw_tbl := (mt_1 (List.mem_of_getElem? (i := 18) rfl))
theorem es_in2 : Cond.initialized "jdk/internal/util/Preconditions" ∈ lw_tbl := (mt_1 (List.mem_of_getElem? (i := 20) rfl))
/-! ===== the place of a char ===== -/
def es_can (c : Int32) : Int32 := if c < 0 then 0 else if 255 < c then 0 else 1
def es_fnd : List Int32 → Int32 → Nat → Int32
  | [], _, _ => -1
  | x :: r, b, k => if x = b then nI k else es_fnd r b (k + 1)
theorem es_enc {G : ev_G} {adK adV : Nat → Nat} (hT : ev_T G) (hE : es_T G adK adV) {ch : Int32} : es_M G 0 yJ1_canEncode_9a6ad cJ1_canEncode_9a6ad 1 (some .boolean) [.int ch] (some (.int (es_can ch))) := by
  refine es_met hT hE (plainFor_of_name (by decide)) (Nat.le_of_ble_eq_true rfl) ?_
  intro p l e R s m args below meth c ls hcx hl
  obtain ⟨⟨hx, hb, hml, hown, hWm, hTT⟩, -, hO, hr, hlocks, hS2, hZ1, hZ2⟩ := hcx
  have hl : lv_has ls 1 [(0, .int ch)] := hl
  have hz : W p l e R s m args below meth c s.heap [] 0 0 (MQ below (es_Q (some (.int 0))) args s 0 0 (fun _ => False)) (F0 m 15 ls []) := by
    refine lv_iconst (n := 0) (v := 0) hx hb (by decide +kernel) (by decide) ?_
    exact W.zret hx hb hr rfl (fun t ht _ => ⟨rfl, ht⟩) (fun q h => by cases h) (by decide +kernel)
  refine lv_iload_n (k := 0) hx hb (by decide +kernel) rfl (lv_at hl 0 rfl) ?_
  refine lv_if_lt (tgt := 15) (off := 14) hx hb (by decide +kernel) (by decide) (fun h => ?_) (fun h => ?_)
  · rw [show es_can ch = 0 by simp [es_can, h]]; exact hz
  · refine lv_iload_n (k := 0) hx hb (by decide +kernel) rfl (lv_at hl 0 rfl) ?_
    refine lv_sipush (n := 255) (v := 255) hx hb (by decide +kernel) (by decide) ?_
    refine lv_icmp_gt (tgt := 15) (off := 7) hx hb (by decide +kernel) (by decide) (fun h2 => ?_) (fun h2 => ?_)
    · rw [show es_can ch = 0 by simp [es_can, h, h2]]; exact hz
    · rw [show es_can ch = 1 by simp [es_can, h, h2]]
      refine lv_iconst (n := 1) (v := 1) hx hb (by decide +kernel) (by decide) ?_
      refine lv_goto (tgt := 16) (off := 4) hx hb (by decide +kernel) (by decide) ?_
      exact W.zret hx hb hr rfl (fun t ht _ => ⟨rfl, ht⟩) (fun q h => by cases h) (by decide +kernel)
theorem es_blen {i : Nat} (hi : i < 2) : (es_byt.getD i []).length = es_len.getD i 0 := by
  have h : ∀ i, i < 2 → (es_byt.getD i []).length = es_len.getD i 0 := by decide +kernel
  exact h i hi
theorem es_dropc (a : List Int32) (k : Nat) (h : k < a.length) : a.drop k = a.getD k 0 :: a.drop (k + 1) := by
  cases hd : a.drop k with
  | nil =>
    have hlen := congrArg List.length hd
    rw [List.length_drop] at hlen
    have h0 : ([] : List Int32).length = 0 := rfl
    omega
  | cons b r =>
    obtain ⟨-, e1, e2, -⟩ := sc_dropC hd
    rw [e1, e2]
theorem es_find {G : ev_G} {adK adV : Nat → Nat} (hT : ev_T G) (hE : es_T G adK adV) {i : Nat} (hi : i < 2) {ch : Int32} : es_M G 0 yJ1_indexOfChar_4cfef cJ1_indexOfChar_4cfef 6 (some .int) [.ref (adV i), .int ch, .int 0, .int (nI (es_len.getD i 0))] (some (.int (es_fnd (es_byt.getD i []) ch.toInt8.toInt32 0))) := by
  refine es_met hT hE (plainFor_of_name (by decide)) (Nat.le_of_ble_eq_true rfl) ?_
  intro p l e R s m args below meth c ls hcx hl
  obtain ⟨⟨hx, hb, hml, hown, hWm, hTT⟩, -, hO, hr, hlocks, hS2, hZ1, hZ2⟩ := hcx
  have hl : lv_has ls 6 [(0, .ref (adV i)), (1, .int ch), (2, .int 0), (3, .int (nI (es_len.getD i 0)))] := hl
  have hS : va_S (fun q => gB G < q) s.heap s.heap [] := va_S.rf
  have hll := es_lenlt hi
  have hbl := es_blen hi
  have loop : ∀ (n k : Nat) (ls : Array Slot), k + n = es_len.getD i 0 → lv_has ls 6 [(5, .int (nI k)), (4, .int ch.toInt8.toInt32), (0, .ref (adV i)), (3, .int (nI (es_len.getD i 0)))] → W p l e R s m args below meth c s.heap [] 0 0 (MQ below (es_Q (some (.int (es_fnd ((es_byt.getD i []).drop k) ch.toInt8.toInt32 k)))) args s 0 0 (fun _ => False)) (F0 m 7 ls []) := by
    intro n
    induction n with
    | zero =>
      intro k ls hk hl
      refine lv_iload hx hb (by decide +kernel) (lv_at hl 0 rfl) ?_
      refine lv_iload_n (k := 3) hx hb (by decide +kernel) rfl (lv_at hl 3 rfl) ?_
      refine lv_icmp_ge (tgt := 31) (off := 21) hx hb (by decide +kernel) (by decide) (fun _ => ?_) (fun h => absurd (nI_le (by omega) (by omega)) h)
      refine lv_iconst (n := -1) (v := -1) hx hb (by decide +kernel) (by decide) ?_
      have e0 : (es_byt.getD i []).drop k = [] := List.drop_eq_nil_of_le (by omega)
      rw [e0]
      exact W.iret hx hb hr (fun t ht _ => ⟨rfl, ht⟩) (fun q h => by cases h) (by decide +kernel)
    | succ n ih =>
      intro k ls hk hl
      have hkl : k < es_len.getD i 0 := by omega
      refine lv_iload hx hb (by decide +kernel) (lv_at hl 0 rfl) ?_
      refine lv_iload_n (k := 3) hx hb (by decide +kernel) rfl (lv_at hl 3 rfl) ?_
      refine lv_icmp_ge (tgt := 31) (off := 21) hx hb (by decide +kernel) (by decide) (fun h => absurd h (nI_ge hkl (by omega))) (fun _ => ?_)
      refine lv_aload_n (k := 0) hx hb (by decide +kernel) rfl (lv_at hl 2 rfl) ?_
      refine lv_iload hx hb (by decide +kernel) (lv_at hl 0 rfl) ?_
      refine va_tb (v := .int ((es_byt.getD i []).getD k 0)) hx hb (hS2.1 i hi).2.2.2 hS (vp_in_nI hkl hll) (by show Value.int ((es_byt.getD i []).getD (nI k).toNatClampNeg 0) = _; rw [nI_clamp (by omega)]) (by decide +kernel) ?_
      refine lv_iload hx hb (by decide +kernel) (lv_at hl 1 rfl) ?_
      have hk2 : k < (es_byt.getD i []).length := by omega
      have ed := es_dropc (es_byt.getD i []) k hk2
      refine lv_icmp_ne (tgt := 25) (off := 6) hx hb (by decide +kernel) (by decide) (fun h => ?_) (fun h => ?_)
      · refine lv_iinc (v := nI (k + 1)) (lv' := [(5, .int (nI (k + 1))), (4, .int ch.toInt8.toInt32), (0, .ref (adV i)), (3, .int (nI (es_len.getD i 0)))]) hx hb (n := 1) (by decide +kernel) hl (k := 0) rfl (nI_1 k) (by decide) rfl (fun ls hl => ?_)
        refine lv_goto (tgt := 7) (off := -21) hx hb (by decide +kernel) (by decide) ?_
        rw [ed, es_fnd, if_neg h]
        exact ih (k + 1) ls (by omega) hl
      · refine lv_iload hx hb (by decide +kernel) (lv_at hl 0 rfl) ?_
        rw [ed, es_fnd, if_pos h]
        exact W.iret hx hb hr (fun t ht _ => ⟨rfl, ht⟩) (fun q h => by cases h) (by decide +kernel)
  refine lv_iload_n (k := 1) hx hb (by decide +kernel) rfl (lv_at hl 1 rfl) ?_
  refine lv_i2b hx hb (by decide +kernel) rfl ?_
  refine lv_istore (lv' := [(4, .int ch.toInt8.toInt32), (0, .ref (adV i)), (1, .int ch), (2, .int 0), (3, .int (nI (es_len.getD i 0)))]) hx hb (by decide +kernel) hl (by decide) rfl (fun ls hl => ?_)
  refine lv_iload_n (k := 2) hx hb (by decide +kernel) rfl (lv_at hl 3 rfl) ?_
  refine lv_istore (lv' := [(5, .int 0), (4, .int ch.toInt8.toInt32), (0, .ref (adV i)), (1, .int ch), (2, .int 0), (3, .int (nI (es_len.getD i 0)))]) hx hb (by decide +kernel) hl (by decide) rfl (fun ls hl => ?_)
  have := loop (es_len.getD i 0) 0 ls (by omega) (lv_sub hl [0, 1, 2, 5] rfl)
  rw [List.drop_zero] at this
  exact this
def es_ixc (i : Nat) (ch : Int32) : Int32 := if es_can ch = 0 then -1 else es_fnd (es_byt.getD i []) ch.toInt8.toInt32 0
theorem es_lenpos {i : Nat} (hi : i < 2) : 0 < es_len.getD i 0 := by
  match i, hi with
  | 0, _ => decide
  | 1, _ => decide
theorem es_ix4 {G : ev_G} {adK adV : Nat → Nat} (hT : ev_T G) (hE : es_T G adK adV) {i : Nat} (hi : i < 2) {ch : Int32} : es_M G 1 yJ1_indexOf_4cfef cJ1_indexOf_4cfef 4 (some .int) [.ref (adV i), .int ch, .int 0, .int (nI (es_len.getD i 0))] (some (.int (es_ixc i ch))) := by
  refine es_met hT hE (plainFor_of_name (by decide)) (Nat.le_of_ble_eq_true rfl) ?_
  intro p l e R s m args below meth c ls hcx hl
  obtain ⟨⟨hx, hb, hml, hown, hWm, hTT⟩, ⟨r1, r2, r3, r4⟩, hO, hr, hlocks, hS2, hZ1, hZ2⟩ := hcx
  have hl : lv_has ls 4 [(0, .ref (adV i)), (1, .int ch), (2, .int 0), (3, .int (nI (es_len.getD i 0)))] := hl
  have hS : va_S (fun q => gB G < q) s.heap s.heap [] := va_S.rf
  have hll := es_lenlt hi
  have hlp := es_lenpos hi
  refine lv_iload_n (k := 1) hx hb (by decide +kernel) rfl (lv_at hl 1 rfl) ?_
  refine es_callS (As := [.int ch]) (rest := []) (d := 1) hx hb hml hown hWm hTT hO (by omega) (by omega) (by omega) (by omega) hl.1 YsJ1_canEncode_9a6ad ml_RJ1_88 (es_enc hT hE) (by decide) rfl (Nat.le_of_ble_eq_true rfl) (by decide +kernel) ?_
  refine lv_if_ne (tgt := 9) (off := 5) hx hb (by decide +kernel) (by decide) (fun h => ?_) (fun h => ?_)
  · rw [show es_ixc i ch = es_fnd (es_byt.getD i []) ch.toInt8.toInt32 0 by simp [es_ixc, h]]
    refine lv_iload_n (k := 2) hx hb (by decide +kernel) rfl (lv_at hl 2 rfl) ?_
    refine lv_iconst (n := 0) (v := 0) hx hb (by decide +kernel) (by decide) ?_
    refine va_mmax hx hb (by rw [hml]; exact hl.1.symm) hown (ev_word hTT hWm ml_RJ1_92 rfl args) (ev_word hTT hWm es_mxs rfl args) (ev_word hTT hWm es_mai rfl args) (ev_word hTT hWm es_mxc rfl args) (by omega) (by show (0 : Nat) + 13 ≤ R.locals; omega) (by omega) (by omega) (by decide +kernel) ?_
    refine lv_istore_n (k := 2) (lv' := [(2, .int 0), (0, .ref (adV i)), (1, .int ch), (3, .int (nI (es_len.getD i 0)))]) hx hb (by decide +kernel) rfl hl (by decide) rfl (fun ls hl => ?_)
    refine lv_iload_n (k := 3) hx hb (by decide +kernel) rfl (lv_at hl 3 rfl) ?_
    refine lv_aload_n (k := 0) hx hb (by decide +kernel) rfl (lv_at hl 1 rfl) ?_
    refine va_tlen (v := nI (es_len.getD i 0)) hx hb (hS2.1 i hi).2.2.2 hS rfl (by decide +kernel) ?_
    refine va_mmin hx hb (by rw [hml]; exact hl.1.symm) hown (ev_word hTT hWm ml_RJ1_38 rfl args) (ev_word hTT hWm es_mns rfl args) (ev_word hTT hWm es_mai rfl args) (ev_word hTT hWm es_mnc rfl args) (by omega) (by show (0 : Nat) + 13 ≤ R.locals; omega) (by omega) (by omega) (by decide +kernel) ?_
    rw [show (if nI (es_len.getD i 0) < nI (es_len.getD i 0) then nI (es_len.getD i 0) else nI (es_len.getD i 0)) = nI (es_len.getD i 0) by split <;> rfl]
    refine lv_istore_n (k := 3) (lv' := [(3, .int (nI (es_len.getD i 0))), (2, .int 0), (0, .ref (adV i)), (1, .int ch)]) hx hb (by decide +kernel) rfl hl (by decide) rfl (fun ls hl => ?_)
    refine lv_iload_n (k := 2) hx hb (by decide +kernel) rfl (lv_at hl 1 rfl) ?_
    refine lv_iload_n (k := 3) hx hb (by decide +kernel) rfl (lv_at hl 0 rfl) ?_
    refine lv_icmp_lt (tgt := 29) (off := 5) hx hb (by decide +kernel) (by decide) (fun _ => ?_) (fun h9 => absurd (nI_lt hlp hll) h9)
    refine lv_aload_n (k := 0) hx hb (by decide +kernel) rfl (lv_at hl 2 rfl) ?_
    refine lv_iload_n (k := 1) hx hb (by decide +kernel) rfl (lv_at hl 3 rfl) ?_
    refine lv_iload_n (k := 2) hx hb (by decide +kernel) rfl (lv_at hl 1 rfl) ?_
    refine lv_iload_n (k := 3) hx hb (by decide +kernel) rfl (lv_at hl 0 rfl) ?_
    refine es_callS (As := [.ref (adV i), .int ch, .int 0, .int (nI (es_len.getD i 0))]) (rest := []) (d := 1) hx hb hml hown hWm hTT hO (by omega) (by omega) (by omega) (by omega) hl.1 YsJ1_indexOfChar_4cfef ml_RJ1_95 (es_find hT hE hi) (by decide) rfl (Nat.le_of_ble_eq_true rfl) (by decide +kernel) ?_
    exact W.iret hx hb hr (fun t ht _ => ⟨rfl, ht⟩) (fun q h => by cases h) (by decide +kernel)
  · rw [show es_ixc i ch = -1 by simp [es_ixc, h]]
    refine lv_iconst (n := -1) (v := -1) hx hb (by decide +kernel) (by decide) ?_
    exact W.iret hx hb hr (fun t ht _ => ⟨rfl, ht⟩) (fun q h => by cases h) (by decide +kernel)
theorem es_ix2 {G : ev_G} {adK adV : Nat → Nat} (hT : ev_T G) (hE : es_T G adK adV) {i : Nat} (hi : i < 2) {ch : Int32} : es_M G 2 yJ0_indexOf_7cf53 cJ0_indexOf_7cf53 3 (some .int) [.ref (adK i), .int ch, .int 0] (some (.int (es_ixc i ch))) := by
  refine es_met hT hE (plainFor_of_name (by decide)) (Nat.le_of_ble_eq_true rfl) ?_
  intro p l e R s m args below meth c ls hcx hl
  obtain ⟨⟨hx, hb, hml, hown, hWm, hTT⟩, ⟨r1, r2, r3, r4⟩, hO, hr, hlocks, hS2, hZ1, hZ2⟩ := hcx
  have hl : lv_has ls 3 [(0, .ref (adK i)), (1, .int ch), (2, .int 0)] := hl
  have hS : va_S (fun q => gB G < q) s.heap s.heap [] := va_S.rf
  refine lv_aload_n (k := 0) hx hb (by decide +kernel) rfl (lv_at hl 0 rfl) ?_
  refine es_callV (As := []) (rest := []) (d := 2) hx hb hml hown hWm hTT hO (by omega) (by omega) (by omega) (by omega) hl.1 YsJ0_isLatin1_aae02 ml_RJ0_492 (es_latin hT hE hi) (by decide) (vk_recv hS2 hi hS) rfl (Nat.le_of_ble_eq_true rfl) (by decide +kernel) ?_
  refine lv_if_eq (tgt := 23) (off := 19) hx hb (by decide +kernel) (by decide) (fun h => absurd h (by decide)) (fun _ => ?_)
  refine lv_aload_n (k := 0) hx hb (by decide +kernel) rfl (lv_at hl 0 rfl) ?_
  refine vk_getf hx hb (hS2.1 i hi).2.2.1 hS hown (ev_word hTT hWm fl_RJ0_9 rfl args) (fun _ h => h) (by decide +kernel) ?_
  refine lv_iload_n (k := 1) hx hb (by decide +kernel) rfl (lv_at hl 1 rfl) ?_
  refine lv_iload_n (k := 2) hx hb (by decide +kernel) rfl (lv_at hl 2 rfl) ?_
  refine lv_aload_n (k := 0) hx hb (by decide +kernel) rfl (lv_at hl 0 rfl) ?_
  refine es_callV (As := []) (d := 2) hx hb hml hown hWm hTT hO (by omega) (by omega) (by omega) (by omega) hl.1 YsJ0_length_8abf5 ml_RJ0_505 (es_length hT hE hi) (by decide) (vk_recv hS2 hi hS) rfl (Nat.le_of_ble_eq_true rfl) (by decide +kernel) ?_
  refine es_callS (As := [.ref (adV i), .int ch, .int 0, .int (nI (es_len.getD i 0))]) (rest := []) (d := 2) hx hb hml hown hWm hTT hO (by omega) (by omega) (by omega) (by omega) hl.1 YsJ1_indexOf_4cfef ml_RJ0_637 (es_ix4 hT hE hi) (by decide) rfl (Nat.le_of_ble_eq_true rfl) (by decide +kernel) ?_
  refine lv_goto (tgt := 36) (off := 16) hx hb (by decide +kernel) (by decide) ?_
  exact W.iret hx hb hr (fun t ht _ => ⟨rfl, ht⟩) (fun q h => by cases h) (by decide +kernel)
theorem es_ix1 {G : ev_G} {adK adV : Nat → Nat} (hT : ev_T G) (hE : es_T G adK adV) {i : Nat} (hi : i < 2) {ch : Int32} : es_M G 3 yJ0_indexOf_0f7a4 cJ0_indexOf_0f7a4 2 (some .int) [.ref (adK i), .int ch] (some (.int (es_ixc i ch))) := by
  refine es_met hT hE (plainFor_of_name (by decide)) (Nat.le_of_ble_eq_true rfl) ?_
  intro p l e R s m args below meth c ls hcx hl
  obtain ⟨⟨hx, hb, hml, hown, hWm, hTT⟩, ⟨r1, r2, r3, r4⟩, hO, hr, hlocks, hS2, hZ1, hZ2⟩ := hcx
  have hl : lv_has ls 2 [(0, .ref (adK i)), (1, .int ch)] := hl
  have hS : va_S (fun q => gB G < q) s.heap s.heap [] := va_S.rf
  refine lv_aload_n (k := 0) hx hb (by decide +kernel) rfl (lv_at hl 0 rfl) ?_
  refine lv_iload_n (k := 1) hx hb (by decide +kernel) rfl (lv_at hl 1 rfl) ?_
  refine lv_iconst (n := 0) (v := 0) hx hb (by decide +kernel) (by decide) ?_
  refine es_callV (As := [.int ch, .int 0]) (rest := []) (d := 3) hx hb hml hown hWm hTT hO (by omega) (by omega) (by omega) (by omega) hl.1 YsJ0_indexOf_7cf53 ml_RJ0_633 (es_ix2 hT hE hi) (by decide) (vk_recv hS2 hi hS) rfl (Nat.le_of_ble_eq_true rfl) (by decide +kernel) ?_
  exact W.iret hx hb hr (fun t ht _ => ⟨rfl, ht⟩) (fun q h => by cases h) (by decide +kernel)
