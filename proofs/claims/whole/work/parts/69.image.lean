/-! ===== image in the law ===== -/
section LawI
variable {p : Program} {l : Launch} {e : Env} {s : State} {m : MethodId} {below : List Frame} {meth : Method} {c : Code} {G : ev_G} {b L i kp ca sa : Nat} {xs : Nat → Int32}
set_option maxRecDepth 100000 in
/-- the reference's half -/
theorem lc_imR (C : lc_X p s m c G b L xs below meth) (hk : kp = 0 ∨ kp = 171) (hi : i + 6 ≤ L) (hC : ca ≤ 600000 ∧ sa ≤ 7302250) {y r : Int32} {D1 D2 : ev_D} (hy : xs (i + 1) = 0 → y = 0) (hy2 : ¬ xs (i + 1) = 0 → y = 1) (h2 : fX12_image sh_L (sh_E kp) lc_fu 132 y D1 = some (r, D2)) (hI2 : Inv kp D2) (hN : lc_N Inv p l e s m below meth c G b i kp ca sa 1360)
    {H : Heap} {locs : List Loc} {ls : Array Slot} (hW : ev_W G (sh_S kp) D1 H) (hS : va_S (fun q => gB G < q) s.heap H locs) (hl : lv_has ls 4 [(0, .ref b), (1, .ref (gB G + 1)), (2, .ref (gB G + 132)), (3, .int (nI i))]) : W p l e room_1 s m #[Value.ref b] below meth c H locs ca sa (lw_Z below #[Value.ref b] s) (F0 m 1315 ls [.int r]) := by
  have hcx := C
  obtain ⟨hx, hb, hml, hown, hWm, hT, hX, hbl, hsz, hL⟩ := hcx
  refine lv_aload_n hx hb dL_1315 rfl (lv_at hl 2 rfl) ?_
  refine lc_arg C 1 (by decide) hi hS hl dL_1316 dL_1317 dL_1318 dL_1319 dL_1320 ?_
  have fin : W p l e room_1 s m #[Value.ref b] below meth c H locs ca sa (lw_Z below #[Value.ref b] s) (F0 m 1329 ls (.int y :: .ref (gB G + 132) :: [.int r])) := by
    refine ev_callW (S := sh_S kp) (S2 := sh_S kp) (vs := [.int y]) (rest := [.int r]) (r := (r, D2)) (d := 800) hx hb hml hown hWm hT (by decide) (by decide) YX12_image ml_RL_170 (mX12_image (sh_ty hk) (sh_kM hk) h2) (by decide) 12 (sh_kM hk) rfl rfl (Nat.le_of_ble_eq_true rfl) dL_1329 hC hl.1 hW hS (fun H locs hW hS => ?_)
    exact lv_icmp_eq (tgt := 1360) (off := 28) hx hb dL_1332 (by decide) (fun _ => hN D2 H locs ls hI2 hW hS hl) (fun h => absurd rfl h)
  refine lv_if_eq (tgt := 1328) (off := 7) hx hb dL_1321 (by decide) (fun h0 => ?_) (fun h0 => ?_)
  · refine lv_iconst (v := 0) hx hb dL_1328 rfl ?_
    rw [hy h0] at fin
    exact fin
  · refine lv_iconst (v := 1) hx hb dL_1324 rfl ?_
    refine lv_goto (tgt := 1329) (off := 4) hx hb dL_1325 (by decide) ?_
    rw [hy2 h0] at fin
    exact fin
set_option maxRecDepth 100000 in
theorem lc_image (C : lc_X p s m c G b L xs below meth) (hk : kp = 0 ∨ kp = 171) (hi : i + 6 ≤ L) (hC : ca + 100 ≤ 600000 ∧ sa + 7000 ≤ 7302250) (hN : lc_N Inv p l e s m below meth c G b i kp ca sa 1360) (hN2 : kp = 0 → lc_N Inv p l e s m below meth c G b i 171 (ca + 100) (sa + 7000) 1360) : lc_N Inv p l e s m below meth c G b i kp ca sa 1298 := by
  intro D H locs ls hI hW hS hl
  have hcx := C
  obtain ⟨hx, hb, hml, hown, hWm, hT, hX, hbl, hsz, hL⟩ := hcx
  have hC0 : ca ≤ 600000 ∧ sa ≤ 7302250 := by omega
  refine lv_aload_n hx hb dL_1298 rfl (lv_at hl 1 rfl) ?_
  refine lc_arg C 1 (by decide) hi hS hl dL_1299 dL_1300 dL_1301 dL_1302 dL_1303 ?_
  refine lv_if_eq (tgt := 1311) (off := 7) hx hb dL_1304 (by decide) (fun h0 => ?_) (fun h0 => ?_)
  · refine lv_iconst (v := 0) hx hb dL_1311 rfl ?_
    rcases hk with rfl | rfl
    · obtain ⟨D2, a1, a2⟩ := p_imageA (fu := lc_fu) D hI
      refine ev_callW (S := sh_S 0) (S2 := sh_S 0) (vs := [.int 0]) (rest := []) (r := (0, D)) (d := 800) hx hb hml hown hWm hT (by decide) (by decide) YX11_image ml_RL_166 mX11_imageA (by decide) 11 (sh_k1 (.inl rfl)) rfl rfl (Nat.le_of_ble_eq_true rfl) dL_1312 hC0 hl.1 hW hS (fun H locs hW hS => ?_)
      exact lc_imR C (.inl rfl) hi hC0 (fun _ => rfl) (fun h => absurd h0 h) a1 a2 hN hW hS hl
    · obtain ⟨v1, D1, v2, D2, D3, a1, a2, a3, a4⟩ := p_imageB (fu := lc_fu) (by decide) D hI
      refine ev_callW (S := sh_S 171) (S2 := sh_S 171) (vs := [.int 0]) (rest := []) (r := (1, D2)) (d := 800) hx hb hml hown hWm hT (by decide) (by decide) YX11_image ml_RL_166 (mX11_imageB a1 a2) (by decide) 11 (sh_k1 (.inr rfl)) rfl rfl (Nat.le_of_ble_eq_true rfl) dL_1312 hC0 hl.1 hW hS (fun H locs hW hS => ?_)
      exact lc_imR C (.inr rfl) hi hC0 (fun _ => rfl) (fun h => absurd h0 h) a3 a4 hN hW hS hl
  · refine lv_iconst (v := 1) hx hb dL_1307 rfl ?_
    refine lv_goto (tgt := 1312) (off := 4) hx hb dL_1308 (by decide) ?_
    rcases hk with rfl | rfl
    · obtain ⟨v0, S2, D0, v, D1, D2, c1, c2, a1, a2, a3⟩ := p_imageD (fu := lc_fu) (by decide) D hI
      refine ev_callW (S := sh_S 0) (S2 := sh_S 171) (vs := [.int 1]) (rest := []) (r := (1, D1)) (d := 800) hx hb hml hown hWm hT (by decide) (by decide) YX11_image ml_RL_166 (mX11_imageD c1 c2 a1) (by decide) 11 (sh_k1 (.inl rfl)) rfl rfl (Nat.le_of_ble_eq_true rfl) dL_1312 hC hl.1 hW hS (fun H locs hW hS => ?_)
      exact lc_imR C (.inr rfl) hi hC (fun h => absurd h h0) (fun _ => rfl) a2 a3 (hN2 rfl) hW hS hl
    · obtain ⟨v, D1, D2, a1, a2, a3⟩ := p_imageC (fu := lc_fu) (by decide) D hI
      refine ev_callW (S := sh_S 171) (S2 := sh_S 171) (vs := [.int 1]) (rest := []) (r := (1, D1)) (d := 800) hx hb hml hown hWm hT (by decide) (by decide) YX11_image ml_RL_166 (mX11_imageC a1) (by decide) 11 (sh_k1 (.inr rfl)) rfl rfl (Nat.le_of_ble_eq_true rfl) dL_1312 hC0 hl.1 hW hS (fun H locs hW hS => ?_)
      exact lc_imR C (.inr rfl) hi hC0 (fun h => absurd h h0) (fun _ => rfl) a2 a3 hN hW hS hl
end LawI
