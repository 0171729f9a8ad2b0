def es_tm (i : Nat) : Term := Term.string "DeafBells$Reader" (es_ix0 i)
theorem es_f1 : ∀ i, i < 2 → Cond.exactly (es_tm i) "java/lang/String" ∈ flatC (Jvm.Cond.and given_1 narrow_1) := by decide +kernel
theorem es_f2 : ∀ i, i < 2 → Cond.eq (.field (es_tm i) "java/lang/String" "coder" "B") (.int 0) ∈ flatC (Jvm.Cond.and given_1 narrow_1) := by decide +kernel
theorem es_f3 : ∀ i, i < 2 → Cond.arrayOf (.field (es_tm i) "java/lang/String" "value" "[B") .byte ∈ flatC (Jvm.Cond.and given_1 narrow_1) := by decide +kernel
theorem es_f4 : ∀ i, i < 2 → Cond.eq (.length (.field (es_tm i) "java/lang/String" "value" "[B")) (.int (Int32.ofNat (es_len.getD i 0))) ∈ flatC (Jvm.Cond.and given_1 narrow_1) := by decide +kernel
def es_el (i j : Nat) : Cond := Cond.eq (.elem (.field (es_tm i) "java/lang/String" "value" "[B") (.int (Int32.ofNat j))) (.int ((es_byt.getD i []).getD j 0))
theorem es_f50 : ((flatC (Jvm.Cond.and given_1 narrow_1)).drop 13).take 151 = (List.range 151).map (es_el 0) := by decide +kernel
theorem es_f51 : ((flatC (Jvm.Cond.and given_1 narrow_1)).drop 168).take 10 = (List.range 10).map (es_el 1) := by decide +kernel
theorem es_f5 : ∀ i, i < 2 → ∀ j, j < es_len.getD i 0 → es_el i j ∈ flatC (Jvm.Cond.and given_1 narrow_1)
  | 0, _, j, hj => List.mem_of_mem_drop (List.mem_of_mem_take (by rw [es_f50]; exact List.mem_map.mpr ⟨j, List.mem_range.mpr hj, rfl⟩))
  | 1, _, j, hj => List.mem_of_mem_drop (List.mem_of_mem_take (by rw [es_f51]; exact List.mem_map.mpr ⟨j, List.mem_range.mpr hj, rfl⟩))
  | i + 2, h, _, _ => by omega
theorem es_f6 : Cond.not (Cond.eq (es_tm 0) (es_tm 1)) ∈ flatC (Jvm.Cond.and given_1 narrow_1) ∨ Cond.not (Cond.eq (es_tm 1) (es_tm 0)) ∈ flatC (Jvm.Cond.and given_1 narrow_1) := by decide +kernel
theorem es_f7 : Cond.eq (.static "java/lang/String" "COMPACT_STRINGS" "Z") (.int 1) ∈ flatC (Jvm.Cond.and given_1 narrow_1) := by decide +kernel
theorem es_f8 : Cond.isRef (.static "jdk/internal/util/Preconditions" "SIOOBE_FORMATTER" "Ljava/util/function/BiFunction;") ∈ flatC (Jvm.Cond.and given_1 narrow_1) := by decide +kernel
theorem es_get {G : ev_G} (hT : ev_T G) : ∃ adK adV : Nat → Nat, es_T G adK adV := by
  obtain ⟨-, ⟨a, hw, hg⟩, hsz⟩ := hT
  have hs := flat_of_before _ hg
  have hA : ∀ x : Nat, x < (gS G).heap.size → ¬ gB G < x := fun x hx => by omega
  obtain ⟨adK, adV, h1, h2⟩ := vk_Sof (args := a) (s := gS G) (N := 2) (tm := es_tm) (len := es_len) (byt := es_byt) (A := fun q => gB G < q) (fun i hi => es_lenlt hi) (fun i hi => hs _ (es_f1 i hi)) (fun i hi => hs _ (es_f2 i hi)) (fun i hi => hs _ (es_f3 i hi)) (fun i hi => hs _ (es_f4 i hi)) (fun i hi j hj => hs _ (es_f5 i hi j hj))
    (fun i j hi hj hij => by
      match i, j, hi, hj, hij with
      | 0, 0, _, _, h => exact absurd rfl h
      | 1, 1, _, _, h => exact absurd rfl h
      | 0, 1, _, _, _ => exact es_f6.imp (hs _) (hs _)
      | 1, 0, _, _, _ => exact es_f6.symm.imp (hs _) (hs _)) hA
  exact ⟨adK, adV, h1, vk_R.of (hw _ es_sr0) (h2 0 (by decide)), vk_R.of (hw _ es_sr1) (h2 1 (by decide)), va_Zof (hw _ es_ls1) (hw _ es_in1) (va_eqi (hs _ es_f7)) hA, va_Zqof (hw _ es_ls2) (hw _ es_in2) (hs _ es_f8) hA⟩
/-! the three uses, as rules of frames -/
def es_ch (x : Int32) : Int32 := (es_byt.getD 0 []).getD x.toNatClampNeg 0
section Str4
variable {cc : ByteArray} {nL d N NS : Nat} {ini : Bool} {S : ev_S} {F : ev_Fr} {D : ev_D} {pc : Nat} {lv : ev_V} {st : List Value}
theorem ev_slen (hX : ev_X RX4 cc nL d N NS ini F) (h1 : decode cc pc = .ok (.ldc 148, 2)) (h2 : decode cc (pc + 2) = .ok (.invokevirtual 150, 3)) (hd : 2 ≤ d) (hst : ev_cat st = true) (hC : sC S ≤ N ∧ sA S ≤ NS) (kk : F S D (pc + 5) lv (.int 151 :: st)) : F S D pc lv st := by
  obtain ⟨p, l, e, R, s, m, args, below, meth, c, G, Q, ⟨hx, hb, hml, hown, hWm, hT, ⟨hr1, hr2, hr3, hr4⟩, -, hsz⟩, rfl⟩ := hX
  intro H locs ls hW hS hL
  obtain ⟨adK, adV, hE⟩ := es_get hT
  have hO : es_old G H := ⟨ev_size hW, hW.2.2⟩
  have hk : vk_S 2 es_len es_byt adK adV (fun q => gB G < q) s H := (hE.1.moved hWm.alike).kept (es_kept hT hO)
  refine va_ldcS hx hb hown (vk_R.warm hWm hE.2.1) h1 ?_
  refine es_callV (As := []) (rest := st.map (ev_v (gB G))) (d := d) hx hb hml hown hWm hT hO hr1 hr2 (by rw [hr3]; exact hC.1) (by rw [hr4]; exact hC.2) hL.1 YsJ0_length_8abf5 ml_RX4_150 (es_length hT hE (i := 0) (by decide)) (by omega) ?_ rfl (ev_cat_le hst _) h2 (kk H locs ls hW hS hL)
  obtain ⟨cell, q1, q2, q3, -⟩ := (hk.1 0 (by decide)).1
  exact ⟨cell, q1, q2, q3⟩
theorem ev_schar (hX : ev_X RX4 cc nL d N NS ini F) {k : Nat} {x : Int32} (hk : lv[k]? = some (some (.int x))) (hi : ev_in x 151 = true) (h1 : decode cc pc = .ok (.ldc 148, 2)) (h3 : decode cc (pc + 2) = .ok (.iload k, 2)) (h2 : decode cc (pc + 4) = .ok (.invokevirtual 152, 3)) (hd : 4 ≤ d) (hst : ev_cat st = true) (hC : sC S ≤ N ∧ sA S ≤ NS) (kk : F S D (pc + 7) lv (.int (es_ch x) :: st)) : F S D pc lv st := by
  obtain ⟨p, l, e, R, s, m, args, below, meth, c, G, Q, ⟨hx, hb, hml, hown, hWm, hT, ⟨hr1, hr2, hr3, hr4⟩, -, hsz⟩, rfl⟩ := hX
  intro H locs ls hW hS hL
  obtain ⟨adK, adV, hE⟩ := es_get hT
  have hO : es_old G H := ⟨ev_size hW, hW.2.2⟩
  have hkk : vk_S 2 es_len es_byt adK adV (fun q => gB G < q) s H := (hE.1.moved hWm.alike).kept (es_kept hT hO)
  obtain ⟨j, hj, rfl⟩ := vp_in_of (ev_in_vp hi) (by decide)
  refine va_ldcS hx hb hown (vk_R.warm hWm hE.2.1) h1 ?_
  refine lv_iload hx hb h3 (hL.2.2 _ _ hk).1 ?_
  have hch : es_ch (nI j) = (es_byt.getD 0 []).getD j 0 := by unfold es_ch; rw [nI_clamp (by omega)]
  rw [hch] at kk
  refine es_callV (As := [.int (nI j)]) (rest := st.map (ev_v (gB G))) (d := d) hx hb hml hown hWm hT hO hr1 hr2 (by rw [hr3]; exact hC.1) (by rw [hr4]; exact hC.2) hL.1 YsJ0_charAt_5068e ml_RX4_152 (es_char hT hE (i := 0) (by decide) (k := j) hj) (by omega) ?_ rfl (ev_cat_le hst _) h2 (kk H locs ls hW hS hL)
  obtain ⟨cell, q1, q2, q3, -⟩ := (hkk.1 0 (by decide)).1
  exact ⟨cell, q1, q2, q3⟩
theorem ev_sidx (hX : ev_X RX4 cc nL d N NS ini F) {k : Fin 4} {x : Int32} (hk : lv[k.val]? = some (some (.int x))) (h1 : decode cc pc = .ok (.ldc 141, 2)) (h3 : decode cc (pc + 2) = .ok (.iload_n k, 1)) (h4 : decode cc (pc + 3) = .ok (.i2c, 1)) (h2 : decode cc (pc + 4) = .ok (.invokevirtual 143, 3)) (hd : 4 ≤ d) (hst : ev_cat st = true) (hC : sC S ≤ N ∧ sA S ≤ NS) (kk : F S D (pc + 7) lv (.int (es_ixc 1 ((x.toUInt32 % 65536).toInt32)) :: st)) : F S D pc lv st := by
  obtain ⟨p, l, e, R, s, m, args, below, meth, c, G, Q, ⟨hx, hb, hml, hown, hWm, hT, ⟨hr1, hr2, hr3, hr4⟩, -, hsz⟩, rfl⟩ := hX
  intro H locs ls hW hS hL
  obtain ⟨adK, adV, hE⟩ := es_get hT
  have hO : es_old G H := ⟨ev_size hW, hW.2.2⟩
  have hkk : vk_S 2 es_len es_byt adK adV (fun q => gB G < q) s H := (hE.1.moved hWm.alike).kept (es_kept hT hO)
  refine va_ldcS hx hb hown (vk_R.warm hWm hE.2.2.1) h1 ?_
  refine lv_iload_n hx hb h3 rfl (hL.2.2 _ _ hk).1 ?_
  refine lv_i2c hx hb h4 rfl ?_
  refine es_callV (As := [.int ((x.toUInt32 % 65536).toInt32)]) (rest := st.map (ev_v (gB G))) (d := d) hx hb hml hown hWm hT hO hr1 hr2 (by rw [hr3]; exact hC.1) (by rw [hr4]; exact hC.2) hL.1 YsJ0_indexOf_0f7a4 ml_RX4_143 (es_ix1 hT hE (i := 1) (by decide)) (by omega) ?_ rfl (ev_cat_le hst _) h2 (kk H locs ls hW hS hL)
  obtain ⟨cell, q1, q2, q3, -⟩ := (hkk.1 1 (by decide)).1
  exact ⟨cell, q1, q2, q3⟩
end Str4
