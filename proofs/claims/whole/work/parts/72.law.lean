/-! ===== the law: its switch, its loop ===== -/
def lc_tx : Prop := ∀ (kp : Nat) (a1 : Int32) (D : ev_D), Inv kp D → pl kp (fX11_text sh_L (sh_E kp) lc_fu 1 a1) (fX12_text sh_L (sh_E kp) lc_fu 132 a1) D
section LawS
variable {p : Program} {l : Launch} {e : Env} {s : State} {m : MethodId} {below : List Frame} {meth : Method} {c : Code} {G : ev_G} {b L i kp ca sa : Nat} {xs : Nat → Int32}
set_option maxRecDepth 100000 in
theorem lc_sw (C : lc_X p s m c G b L xs below meth) (hk : kp = 0 ∨ kp = 171) (hi : i + 6 ≤ L) (hC : ca + 100 ≤ 600000 ∧ sa + 7000 ≤ 7302250) (hT : lc_tx) (hN : lc_N Inv p l e s m below meth c G b i kp ca sa 1360) (hN2 : kp = 0 → lc_N Inv p l e s m below meth c G b i 171 (ca + 100) (sa + 7000) 1360) (n : Nat) (D : ev_D) (H : Heap) (locs : List Loc) (ls : Array Slot) (hI : Inv kp D) (hW : ev_W G (sh_S kp) D H) (hS : va_S (fun q => gB G < q) s.heap H locs) (hl : lv_has ls 4 [(0, .ref b), (1, .ref (gB G + 1)), (2, .ref (gB G + 132)), (3, .int (nI i))]) (hn : n < 64) : W p l e room_1 s m #[Value.ref b] below meth c H locs ca sa (lw_Z below #[Value.ref b] s) (F0 m 33 ls [.int (nI n)]) := by
  have hC0 : ca ≤ 600000 ∧ sa ≤ 7302250 := by omega
  have hx := C.1
  have hb := C.2.1
  by_cases h37 : 37 < n
  · exact lv_tableOut (tgt := 1360) hx hb dL_33 (.inr (by rw [nI_toInt (by omega)]; omega)) (by decide) (hN D H locs ls hI hW hS hl)
  match n, h37 with
  | 0, _ => exact lv_tableIn (tgt := 200) (off := 167) hx hb dL_33 (by decide) (by decide) rfl (by decide) (lc_state C hk hi hC0 (fun a1 D h => p_state a1 D h) hN D H locs ls hI hW hS hl)
  | 1, _ => exact lv_tableIn (tgt := 223) (off := 190) hx hb dL_33 (by decide) (by decide) rfl (by decide) (lc_ringer C hk hi hC0 (fun a1 a2 a3 D h => p_ringer a1 a2 a3 D h) hN D H locs ls hI hW hS hl)
  | 2, _ => exact lv_tableIn (tgt := 266) (off := 233) hx hb dL_33 (by decide) (by decide) rfl (by decide) (lc_set C hk hi hC0 (fun a1 a2 a3 D h => p_set a1 a2 a3 D h) hN D H locs ls hI hW hS hl)
  | 3, _ => exact lv_tableIn (tgt := 309) (off := 276) hx hb dL_33 (by decide) (by decide) rfl (by decide) (lc_pull C hk hi hC0 (fun a1 D h => p_pull (by decide) a1 D h) hN D H locs ls hI hW hS hl)
  | 4, _ => exact lv_tableIn (tgt := 332) (off := 299) hx hb dL_33 (by decide) (by decide) rfl (by decide) (lc_act C hk hi hC0 (fun a1 a2 D h => p_act (by decide) a1 a2 D h) hN D H locs ls hI hW hS hl)
  | 5, _ => exact lv_tableIn (tgt := 365) (off := 332) hx hb dL_33 (by decide) (by decide) rfl (by decide) (lc_hours C hk hi hC0 (fun a1 D h => p_hours (by decide) a1 D h) hN D H locs ls hI hW hS hl)
  | 6, _ => exact lv_tableIn (tgt := 388) (off := 355) hx hb dL_33 (by decide) (by decide) rfl (by decide) (lc_feed C hk hi hC0 (fun a1 a2 a3 a4 a5 D h => p_feed (by decide) a1 a2 a3 a4 a5 D h) hN D H locs ls hI hW hS hl)
  | 7, _ => exact lv_tableIn (tgt := 451) (off := 418) hx hb dL_33 (by decide) (by decide) rfl (by decide) (lc_end C hk hi hC0 (fun a1 D h => p_end a1 D h) hN D H locs ls hI hW hS hl)
  | 8, _ => exact lv_tableIn (tgt := 474) (off := 441) hx hb dL_33 (by decide) (by decide) rfl (by decide) (lc_text C hk hi hC0 (fun a1 D h => hT kp a1 D h) hN D H locs ls hI hW hS hl)
  | 9, _ => exact lv_tableIn (tgt := 497) (off := 464) hx hb dL_33 (by decide) (by decide) rfl (by decide) (lc_fault C hk hi hC0 (fun a1 D h => p_fault a1 D h) hN D H locs ls hI hW hS hl)
  | 10, _ => exact lv_tableIn (tgt := 520) (off := 487) hx hb dL_33 (by decide) (by decide) rfl (by decide) (lc_of C hk hi hC0 (fun a1 a2 D h => p_of (by decide) a1 a2 D h) hN D H locs ls hI hW hS hl)
  | 11, _ => exact lv_tableIn (tgt := 553) (off := 520) hx hb dL_33 (by decide) (by decide) rfl (by decide) (lc_bell C hk hi hC0 (fun a1 a2 D h => p_bell a1 a2 D h) hN D H locs ls hI hW hS hl)
  | 12, _ => exact lv_tableIn (tgt := 586) (off := 553) hx hb dL_33 (by decide) (by decide) rfl (by decide) (lc_lost C hk hi hC0 (fun  D h => p_lost (by decide)  D h) hN D H locs ls hI hW hS hl)
  | 13, _ => exact lv_tableIn (tgt := 599) (off := 566) hx hb dL_33 (by decide) (by decide) rfl (by decide) (lc_book C hk hi hC0 (fun a1 a2 D h => p_book a1 a2 D h) hN D H locs ls hI hW hS hl)
  | 14, _ => exact lv_tableIn (tgt := 632) (off := 599) hx hb dL_33 (by decide) (by decide) rfl (by decide) (lc_goes C hk hi hC0 (fun a1 a2 D h => p_goes (by decide) a1 a2 D h) hN D H locs ls hI hW hS hl)
  | 15, _ => exact lv_tableIn (tgt := 665) (off := 632) hx hb dL_33 (by decide) (by decide) rfl (by decide) (lc_peal C hk hi hC0 (fun a1 a2 D h => p_peal (by decide) a1 a2 D h) hN D H locs ls hI hW hS hl)
  | 16, _ => exact lv_tableIn (tgt := 698) (off := 665) hx hb dL_33 (by decide) (by decide) rfl (by decide) (lc_row C hk hi hC0 (fun a1 a2 a3 D h => p_row (by decide) a1 a2 a3 D h) hN D H locs ls hI hW hS hl)
  | 17, _ => exact lv_tableIn (tgt := 741) (off := 708) hx hb dL_33 (by decide) (by decide) rfl (by decide) (lc_sign C hk hi hC0 (fun a1 a2 D h => p_sign a1 a2 D h) hN D H locs ls hI hW hS hl)
  | 18, _ => exact lv_tableIn (tgt := 774) (off := 741) hx hb dL_33 (by decide) (by decide) rfl (by decide) (lc_meant C hk hi hC0 (fun a1 a2 D h => p_meant (by decide) a1 a2 D h) hN D H locs ls hI hW hS hl)
  | 19, _ => exact lv_tableIn (tgt := 807) (off := 774) hx hb dL_33 (by decide) (by decide) rfl (by decide) (lc_round C hk hi hC0 (fun a1 a2 D h => p_round a1 a2 D h) hN D H locs ls hI hW hS hl)
  | 20, _ => exact lv_tableIn (tgt := 840) (off := 807) hx hb dL_33 (by decide) (by decide) rfl (by decide) (lc_together C hk hi hC0 (fun a1 D h => p_together (by decide) a1 D h) hN D H locs ls hI hW hS hl)
  | 21, _ => exact lv_tableIn (tgt := 863) (off := 830) hx hb dL_33 (by decide) (by decide) rfl (by decide) (lc_hold C hk hi hC0 (fun a1 a2 a3 D h => p_hold a1 a2 a3 D h) hN D H locs ls hI hW hS hl)
  | 22, _ => exact lv_tableIn (tgt := 906) (off := 873) hx hb dL_33 (by decide) (by decide) rfl (by decide) (lc_holds C hk hi hC0 (fun a1 D h => p_holds (by decide) a1 D h) hN D H locs ls hI hW hS hl)
  | 23, _ => exact lv_tableIn (tgt := 929) (off := 896) hx hb dL_33 (by decide) (by decide) rfl (by decide) (lc_see C hk hi hC0 (fun a1 a2 D h => p_see (by decide) a1 a2 D h) hN D H locs ls hI hW hS hl)
  | 24, _ => exact lv_tableIn (tgt := 962) (off := 929) hx hb dL_33 (by decide) (by decide) rfl (by decide) (lc_waves C hk hi hC0 (fun a1 a2 a3 D h => p_waves (by decide) (by decide) a1 a2 a3 D h) hN D H locs ls hI hW hS hl)
  | 25, _ => exact lv_tableIn (tgt := 1005) (off := 972) hx hb dL_33 (by decide) (by decide) rfl (by decide) (lc_bears C hk hi hC0 (fun a1 a2 D h => p_bears (by decide) a1 a2 D h) hN D H locs ls hI hW hS hl)
  | 26, _ => exact lv_tableIn (tgt := 1038) (off := 1005) hx hb dL_33 (by decide) (by decide) rfl (by decide) (lc_pigeon C hk hi hC0 (fun a1 D h => p_pigeon a1 D h) hN D H locs ls hI hW hS hl)
  | 27, _ => exact lv_tableIn (tgt := 1061) (off := 1028) hx hb dL_33 (by decide) (by decide) rfl (by decide) (lc_best C hk hi hC0 (fun a1 a2 D h => p_best (by decide) a1 a2 D h) hN D H locs ls hI hW hS hl)
  | 28, _ => exact lv_tableIn (tgt := 1094) (off := 1061) hx hb dL_33 (by decide) (by decide) rfl (by decide) (lc_stranger C hk hi hC0 (fun a1 a2 D h => p_stranger (by decide) a1 a2 D h) hN D H locs ls hI hW hS hl)
  | 29, _ => exact lv_tableIn (tgt := 1127) (off := 1094) hx hb dL_33 (by decide) (by decide) rfl (by decide) (lc_heard C hk hi hC0 (fun a1 a2 D h => p_heard (by decide) (by decide) a1 a2 D h) hN D H locs ls hI hW hS hl)
  | 30, _ => exact lv_tableIn (tgt := 1160) (off := 1127) hx hb dL_33 (by decide) (by decide) rfl (by decide) (lc_feeds C hk hi hC0 (fun a1 D h => p_feeds (by decide) a1 D h) hN D H locs ls hI hW hS hl)
  | 31, _ => exact lv_tableIn (tgt := 1183) (off := 1150) hx hb dL_33 (by decide) (by decide) rfl (by decide) (lc_casts C hk hi hC0 (fun a1 D h => p_casts (by decide) (by decide) a1 D h) hN D H locs ls hI hW hS hl)
  | 32, _ => exact lv_tableIn (tgt := 1206) (off := 1173) hx hb dL_33 (by decide) (by decide) rfl (by decide) (lc_opinion C hk hi hC0 (fun a1 a2 D h => p_opinion a1 a2 D h) hN D H locs ls hI hW hS hl)
  | 33, _ => exact lv_tableIn (tgt := 1239) (off := 1206) hx hb dL_33 (by decide) (by decide) rfl (by decide) (lc_peals C hk hi hC0 (fun a1 D h => p_peals (by decide) (by decide) a1 D h) hN D H locs ls hI hW hS hl)
  | 34, _ => exact lv_tableIn (tgt := 1262) (off := 1229) hx hb dL_33 (by decide) (by decide) rfl (by decide) (lc_game C hk hi hC0 (fun a1 D h => p_game (by decide) a1 D h) hN D H locs ls hI hW hS hl)
  | 35, _ => exact lv_tableIn (tgt := 1285) (off := 1252) hx hb dL_33 (by decide) (by decide) rfl (by decide) (lc_undo C hk hi hC0 (fun  D h => p_undo (by decide)  D h) hN D H locs ls hI hW hS hl)
  | 36, _ => exact lv_tableIn (tgt := 1298) (off := 1265) hx hb dL_33 (by decide) (by decide) rfl (by decide) (lc_image C hk hi hC hN hN2 D H locs ls hI hW hS hl)
  | 37, _ => exact lv_tableIn (tgt := 1337) (off := 1304) hx hb dL_33 (by decide) (by decide) rfl (by decide) (lc_look C hk hi hC0 (fun a1 D h => p_look (by decide) a1 D h) hN D H locs ls hI hW hS hl)
  | n + 38, h => omega
end LawS
