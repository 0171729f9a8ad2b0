/-! ===== the law's loop ===== -/
theorem and63 (x : Int32) : ∃ n, n < 64 ∧ x &&& nI 63 = nI n := by
  refine ⟨(x.toBitVec &&& 63#32).toNat, ?_, ?_⟩
  · rw [BitVec.toNat_and]
    exact Nat.lt_of_le_of_lt Nat.and_le_right (by decide)
  · refine nI_ext ?_
    rw [Int32.toBitVec_and, nI_bv, nI_bv, BitVec.ofNat_toNat, BitVec.setWidth_eq]
section LawP
variable {p : Program} {l : Launch} {e : Env} {s : State} {m : MethodId} {below : List Frame} {meth : Method} {c : Code} {G : ev_G} {b L : Nat} {xs : Nat → Int32}
set_option maxRecDepth 100000 in
theorem lc_loop (C : lc_X p s m c G b L xs below meth) (hr : meth.sig.returnType = ret) (hlocks : meth.locks = false) (hT : lc_tx) (d : Nat) : ∀ (i kp ca sa : Nat), i ≤ L → L < i + 6 * d + 6 → (kp = 0 ∧ ca ≤ 450 ∧ sa ≤ 30000 ∨ kp = 171 ∧ ca ≤ 550 ∧ sa ≤ 37000) → lc_N Inv p l e s m below meth c G b i kp ca sa 18 := by
  have hcx := C
  obtain ⟨hx, hb, hml, hown, hWm, hTG, hX, hbl, hsz, hL⟩ := hcx
  have head : ∀ (i kp ca sa : Nat), i ≤ L → ca ≤ 600000 → sa ≤ 7302250 → (i + 6 ≤ L → lc_N Inv p l e s m below meth c G b i kp ca sa 27) → lc_N Inv p l e s m below meth c G b i kp ca sa 18 := by
    intro i kp ca sa hi h1 h2 kk D H locs ls hI hW hS hl
    refine lv_iload_n hx hb dL_18 rfl (lv_at hl 3 rfl) ?_
    refine lv_aload_n hx hb dL_19 rfl (lv_at hl 0 rfl) ?_
    refine va_slen hx hb hX hbl (show ¬ gB G < b by omega) hS dL_20 ?_
    refine lv_bipush (v := nI 6) hx hb dL_21 rfl ?_
    refine lv_isub hx hb dL_23 ?_
    refine lv_icmp_gt (tgt := 1366) (off := 1342) hx hb dL_24 (by decide) (fun h => ?_) (fun h => ?_)
    · refine lv_iconst (v := 1) hx hb dL_1366 rfl ?_
      refine va_forget (fun q hq => by have := hS.2.2 q hq; omega) ?_
      refine W.widen h1 h2 ?_
      exact lw_ret hx hb hr hlocks dL_1367
    · refine kk ?_ D H locs ls hI hW hS hl
      rw [Int32.lt_iff_toInt_lt, show Int32.ofNat L = nI L from rfl, pk_sub_toInt (by omega) (by decide), nI_toInt (by omega)] at h
      omega
  induction d with
  | zero =>
    intro i kp ca sa hi hd hk
    exact head i kp ca sa hi (by omega) (by omega) (fun h => by omega)
  | succ d ih =>
    intro i kp ca sa hi hd hk
    refine head i kp ca sa hi (by omega) (by omega) (fun h6 => ?_)
    have nx : ∀ kp' ca' sa', (kp' = 0 ∧ ca' ≤ 450 ∧ sa' ≤ 30000 ∨ kp' = 171 ∧ ca' ≤ 550 ∧ sa' ≤ 37000) → lc_N Inv p l e s m below meth c G b i kp' ca' sa' 1360 := by
      intro kp' ca' sa' hk' D H locs ls hI hW hS hl
      refine lv_iinc (v := nI (i + 6)) (lv' := [(3, .int (nI (i + 6))), (0, .ref b), (1, .ref (gB G + 1)), (2, .ref (gB G + 132))]) hx hb dL_1360 hl (k := 3) rfl (by show nI i + nI 6 = nI (i + 6); rw [addK]) (by decide) rfl (fun ls hl => ?_)
      refine lv_goto (tgt := 18) (off := -1345) hx hb dL_1363 (by decide) ?_
      exact ih (i + 6) kp' ca' sa' h6 (by omega) hk' D H locs ls hI hW hS (lv_sub hl [1, 2, 3, 0] rfl)
    intro D H locs ls hI hW hS hl
    refine lv_aload_n hx hb dL_27 rfl (lv_at hl 0 rfl) ?_
    refine lv_iload_n hx hb dL_28 rfl (lv_at hl 3 rfl) ?_
    refine va_sld hx hb hX hbl (show ¬ gB G < b by omega) hS (vp_in_nI (by omega) (by omega)) dL_29 ?_
    refine lv_bipush (v := nI 63) hx hb dL_30 rfl ?_
    refine lv_iand hx hb dL_32 ?_
    obtain ⟨n, hn, en⟩ := and63 (xs (nI i).toNatClampNeg)
    rw [en]
    exact lc_sw C (by omega) h6 (by omega) hT (nx kp ca sa hk) (fun h0 => nx 171 (ca + 100) (sa + 7000) (by omega)) n D H locs ls hI hW hS hl hn
end LawP
