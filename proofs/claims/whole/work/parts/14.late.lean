/-! ===== the reader, where it asks Strings ===== -/
def fX4_wordKind_8 (L : Nat → Nat) (E : Nat → Nat → Nat) (fu : Nat) : Nat → Nat → Int32 → Int32 → Int32 → Int32 → Int32 → ev_D → ev_Op
  | 0, _, _, _, _, _, _, _ => none
  | n + 1, l0, l1, l2, l3, l4, l5, D => if (151 : Int32) ≤ l5 then some ((1 : Int32), D) else ev_gd (ev_in l5 151) (if (es_ch l5) = (32 : Int32) then if l4 = (l2 - l1) then some (((256 : Int32) + l3), D) else fX4_wordKind_8 L E fu n l0 l1 l2 (l3 + (1 : Int32)) (0 : Int32) (l5 + (1 : Int32)) D else if l4 = (-1 : Int32) then fX4_wordKind_8 L E fu n l0 l1 l2 l3 (-1 : Int32) (l5 + (1 : Int32)) D else if l2 ≤ (l1 + l4) then fX4_wordKind_8 L E fu n l0 l1 l2 l3 (-1 : Int32) (l5 + (1 : Int32)) D else ev_gd (ev_in (l1 + l4) (L (E l0 4))) (if (D (E l0 4) ((l1 + l4)).toNatClampNeg) = (es_ch l5) then fX4_wordKind_8 L E fu n l0 l1 l2 l3 (l4 + (1 : Int32)) (l5 + (1 : Int32)) D else fX4_wordKind_8 L E fu n l0 l1 l2 l3 (-1 : Int32) (l5 + (1 : Int32)) D))
def fX4_wordKind (L : Nat → Nat) (E : Nat → Nat → Nat) (fu : Nat) (l0 : Nat) (l1 : Int32) (l2 : Int32) (D : ev_D) : ev_Op := fX4_wordKind_8 L E fu fu l0 l1 l2 (0 : Int32) (0 : Int32) (0 : Int32) D
def fX4_tokenKind (L : Nat → Nat) (E : Nat → Nat → Nat) (fu : Nat) (l0 : Nat) (l1 : Int32) (l2 : Int32) (D : ev_D) : ev_Op := ev_gd (ev_in l1 (L (E l0 4))) (ev_bd (fX4_isLetter L E fu (D (E l0 4) (l1).toNatClampNeg) D) (fun v1 D1 => if v1 = 0 then ev_bd (fX4_isDigit L E fu (D (E l0 4) (l1).toNatClampNeg) D1) (fun v3 D3 => if v3 = 0 then if (es_ixc 1 (((D (E l0 4) (l1).toNatClampNeg)).toUInt32 % 65536).toInt32) < 0 then some ((1 : Int32), D3) else some ((D (E l0 4) (l1).toNatClampNeg), D3) else ev_bd (fX4_numberKind L E fu l0 l1 l2 D3) (fun v7 D7 => some (v7, D7))) else ev_bd (fX4_wordKind L E fu l0 l1 l2 D1) (fun v8 D8 => some (v8, D8))))
def fX4_split_66 (L : Nat → Nat) (E : Nat → Nat → Nat) (fu : Nat) (l0 : Nat) (D : ev_D) : ev_Op := ev_bd (fX4_addToken L E fu l0 (0 : Int32) (D l0 1) D) (fun _ D1 => some (0, D1))
def fX4_split_14 (L : Nat → Nat) (E : Nat → Nat → Nat) (fu : Nat) : Nat → Nat → Int32 → Int32 → ev_D → ev_Op
  | 0, _, _, _, _ => none
  | n + 1, l0, l1, l2, D => if (400 : Int32) ≤ l2 then fX4_split_66 L E fu l0 D else if (D l0 1) ≤ l1 then fX4_split_66 L E fu l0 D else ev_bd (fX4_runFrom L E fu l0 l1 D) (fun v4 D4 => ev_gd (ev_in l1 (L (E l0 4))) (ev_bd (fX4_isBlank L E fu (D4 (E l0 4) (l1).toNatClampNeg) D4) (fun v5 D5 => if v5 = 0 then ev_bd (fX4_tokenKind L E fu l0 l1 v4 D5) (fun v7 D7 => ev_bd (fX4_addToken L E fu l0 v7 l1 D7) (fun _ D8 => fX4_split_14 L E fu n l0 v4 (l2 + (1 : Int32)) D8)) else fX4_split_14 L E fu n l0 v4 (l2 + (1 : Int32)) D5)))
def fX4_split (L : Nat → Nat) (E : Nat → Nat → Nat) (fu : Nat) (l0 : Nat) (D : ev_D) : ev_Op := fX4_split_14 L E fu fu l0 (0 : Int32) (0 : Int32) (ev_up (ev_up D l0 8 (0 : Int32)) l0 9 (0 : Int32))
def fX4_read_125 (L : Nat → Nat) (E : Nat → Nat → Nat) (fu : Nat) (k41 : Nat → Int32 → Int32 → ev_D → ev_Op) (l0 : Nat) (l1 : Int32) (l3 : Int32) (s0 : Int32) (D : ev_D) : ev_Op := if s0 = 0 then some ((-1 : Int32), D) else ev_bd (fX4_take L E fu l0 (59 : Int32) D) (fun v2 D2 => if v2 = 0 then some ((-1 : Int32), D2) else k41 l0 l1 (l3 + (1 : Int32)) D2)
def fX4_read_41 (L : Nat → Nat) (E : Nat → Nat → Nat) (fu : Nat) : Nat → Nat → Int32 → Int32 → ev_D → ev_Op
  | 0, _, _, _, _ => none
  | n + 1, l0, l1, l3, D => if (16 : Int32) < l3 then some ((-1 : Int32), D) else ev_bd (fX4_kind L E fu l0 D) (fun v5 D5 => if v5 = 0 then some (l3, D5) else ev_bd (fX4_mayBegin L E fu l0 l1 D5) (fun v7 D7 => if v7 = 0 then ev_bd (fX4_refuse L E fu l0 (1 : Int32) D7) (fun v18 D18 => some ((-1 : Int32), D18)) else if l3 = (16 : Int32) then ev_bd (fX4_refuse L E fu l0 (3 : Int32) D7) (fun v17 D17 => some ((-1 : Int32), D17)) else if l1 = 0 then ev_bd (fX4_readLaw L E fu l0 D7) (fun v16 D16 => fX4_read_125 L E fu (fX4_read_41 L E fu n) l0 l1 l3 v16 D16) else if l1 = (1 : Int32) then ev_bd (fX4_readRope L E fu l0 D7) (fun v15 D15 => fX4_read_125 L E fu (fX4_read_41 L E fu n) l0 l1 l3 v15 D15) else if l1 = (2 : Int32) then ev_bd (fX4_readDay L E fu l0 D7) (fun v14 D14 => fX4_read_125 L E fu (fX4_read_41 L E fu n) l0 l1 l3 v14 D14) else ev_bd (fX4_readChange L E fu l0 D7) (fun v13 D13 => fX4_read_125 L E fu (fX4_read_41 L E fu n) l0 l1 l3 v13 D13)))
def fX4_read (L : Nat → Nat) (E : Nat → Nat → Nat) (fu : Nat) (l0 : Nat) (l1 : Int32) (l2 : Int32) (D : ev_D) : ev_Op := ev_bd (fX4_split L E fu l0 (ev_up (ev_up (ev_up D l0 2 (0 : Int32)) l0 3 (-1 : Int32)) l0 11 l2)) (fun _ D19 => ev_bd (fX11_within L E fu l1 (0 : Int32) (3 : Int32) (ev_up D19 l0 1 (0 : Int32))) (fun v20 D20 => if v20 = 0 then some ((-1 : Int32), D20) else ev_bd (fX4_clearDraft L E fu l0 D20) (fun _ D22 => fX4_read_41 L E fu fu l0 l1 (0 : Int32) D22)))
def fX11_text (L : Nat → Nat) (E : Nat → Nat → Nat) (fu : Nat) (l0 : Nat) (l1 : Int32) (D : ev_D) : ev_Op := ev_bd (fX4_read L E fu (E l0 2) l1 (D (E (E l0 0) 0) 5) D) (fun v1 D1 => if v1 = (-1 : Int32) then some ((-1 : Int32), D1) else ev_bd (fX7_becomeOne L E fu (E (E l0 0) 2) l1 (E (E l0 2) 0) D1) (fun _ D3 => if l1 = (2 : Int32) then ev_bd (fX2_forget L E fu (E l0 1) D3) (fun _ D5 => some (v1, D5)) else some (v1, D3)))
theorem YX11_text : ev_YV yX11_text cX11_text 3 (some .int) 1 := ⟨⟨(mt_3 (List.mem_of_getElem? (i := 157) rfl)), (mt_1 (List.mem_of_getElem? (i := 1) rfl)), by decide +kernel, by decide⟩, (mt_3 (List.mem_of_getElem? (i := 155) rfl)), (mt_3 (List.mem_of_getElem? (i := 156) rfl))⟩
theorem YX4_addToken : ev_YV yX4_addToken cX4_addToken 3 none 2 := ⟨⟨(mt_4 (List.mem_of_getElem? (i := 59) rfl)), (mt_1 (List.mem_of_getElem? (i := 12) rfl)), by decide +kernel, by decide⟩, (mt_4 (List.mem_of_getElem? (i := 58) rfl)), (List.mem_of_getElem? (i := 14) (by decide +kernel))⟩
theorem YX4_clearDraft : ev_YV yX4_clearDraft cX4_clearDraft 1 none 0 := ⟨⟨(mt_4 (List.mem_of_getElem? (i := 64) rfl)), (mt_1 (List.mem_of_getElem? (i := 12) rfl)), by decide +kernel, by decide⟩, (mt_4 (List.mem_of_getElem? (i := 63) rfl)), (List.mem_of_getElem? (i := 15) (by decide +kernel))⟩
theorem YX4_isBlank : ev_YS yX4_isBlank cX4_isBlank 1 (some .boolean) 1 := ⟨⟨(mt_3 (List.mem_of_getElem? (i := 178) rfl)), (mt_1 (List.mem_of_getElem? (i := 12) rfl)), by decide +kernel, by decide⟩, (mt_3 (List.mem_of_getElem? (i := 177) rfl))⟩
theorem YX4_mayBegin : ev_YV yX4_mayBegin cX4_mayBegin 2 (some .boolean) 1 := ⟨⟨(mt_4 (List.mem_of_getElem? (i := 80) rfl)), (mt_1 (List.mem_of_getElem? (i := 12) rfl)), by decide +kernel, by decide⟩, (mt_4 (List.mem_of_getElem? (i := 79) rfl)), (List.mem_of_getElem? (i := 17) (by decide +kernel))⟩
theorem YX4_numberKind : ev_YV yX4_numberKind cX4_numberKind 4 (some .int) 2 := ⟨⟨(mt_3 (List.mem_of_getElem? (i := 239) rfl)), (mt_1 (List.mem_of_getElem? (i := 12) rfl)), by decide +kernel, by decide⟩, (mt_3 (List.mem_of_getElem? (i := 238) rfl)), (List.mem_of_getElem? (i := 13) (by decide +kernel))⟩
theorem YX4_read : ev_YV yX4_read cX4_read 5 (some .int) 2 := ⟨⟨(mt_3 (List.mem_of_getElem? (i := 161) rfl)), (mt_1 (List.mem_of_getElem? (i := 12) rfl)), by decide +kernel, by decide⟩, (mt_3 (List.mem_of_getElem? (i := 159) rfl)), (mt_3 (List.mem_of_getElem? (i := 160) rfl))⟩
theorem YX4_readChange : ev_YV yX4_readChange cX4_readChange 3 (some .boolean) 0 := ⟨⟨(mt_4 (List.mem_of_getElem? (i := 153) rfl)), (mt_1 (List.mem_of_getElem? (i := 12) rfl)), by decide +kernel, by decide⟩, (mt_4 (List.mem_of_getElem? (i := 152) rfl)), (List.mem_of_getElem? (i := 30) (by decide +kernel))⟩
theorem YX4_readDay : ev_YV yX4_readDay cX4_readDay 4 (some .boolean) 0 := ⟨⟨(mt_4 (List.mem_of_getElem? (i := 149) rfl)), (mt_1 (List.mem_of_getElem? (i := 12) rfl)), by decide +kernel, by decide⟩, (mt_4 (List.mem_of_getElem? (i := 148) rfl)), (List.mem_of_getElem? (i := 29) (by decide +kernel))⟩
theorem YX4_readLaw : ev_YV yX4_readLaw cX4_readLaw 1 (some .boolean) 0 := ⟨⟨(mt_4 (List.mem_of_getElem? (i := 88) rfl)), (mt_1 (List.mem_of_getElem? (i := 12) rfl)), by decide +kernel, by decide⟩, (mt_4 (List.mem_of_getElem? (i := 87) rfl)), (List.mem_of_getElem? (i := 19) (by decide +kernel))⟩
theorem YX4_readRope : ev_YV yX4_readRope cX4_readRope 2 (some .boolean) 0 := ⟨⟨(mt_4 (List.mem_of_getElem? (i := 141) rfl)), (mt_1 (List.mem_of_getElem? (i := 12) rfl)), by decide +kernel, by decide⟩, (mt_4 (List.mem_of_getElem? (i := 140) rfl)), (List.mem_of_getElem? (i := 28) (by decide +kernel))⟩
theorem YX4_runFrom : ev_YV yX4_runFrom cX4_runFrom 4 (some .int) 1 := ⟨⟨(mt_3 (List.mem_of_getElem? (i := 169) rfl)), (mt_1 (List.mem_of_getElem? (i := 12) rfl)), by decide +kernel, by decide⟩, (mt_3 (List.mem_of_getElem? (i := 168) rfl)), (List.mem_of_getElem? (i := 10) (by decide +kernel))⟩
theorem YX4_split : ev_YV yX4_split cX4_split 4 none 0 := ⟨⟨(mt_3 (List.mem_of_getElem? (i := 165) rfl)), (mt_1 (List.mem_of_getElem? (i := 12) rfl)), by decide +kernel, by decide⟩, (mt_3 (List.mem_of_getElem? (i := 164) rfl)), (List.mem_of_getElem? (i := 9) (by decide +kernel))⟩
theorem YX4_tokenKind : ev_YV yX4_tokenKind cX4_tokenKind 4 (some .int) 2 := ⟨⟨(mt_3 (List.mem_of_getElem? (i := 182) rfl)), (mt_1 (List.mem_of_getElem? (i := 12) rfl)), by decide +kernel, by decide⟩, (mt_3 (List.mem_of_getElem? (i := 181) rfl)), (List.mem_of_getElem? (i := 11) (by decide +kernel))⟩
theorem YX4_wordKind : ev_YV yX4_wordKind cX4_wordKind 7 (some .int) 2 := ⟨⟨(mt_3 (List.mem_of_getElem? (i := 186) rfl)), (mt_1 (List.mem_of_getElem? (i := 12) rfl)), by decide +kernel, by decide⟩, (mt_3 (List.mem_of_getElem? (i := 185) rfl)), (List.mem_of_getElem? (i := 12) (by decide +kernel))⟩
theorem YX7_becomeOne : ev_YV yX7_becomeOne cX7_becomeOne 3 none 2 := ⟨⟨(mt_4 (List.mem_of_getElem? (i := 157) rfl)), (mt_1 (List.mem_of_getElem? (i := 7) rfl)), by decide +kernel, by decide⟩, (mt_4 (List.mem_of_getElem? (i := 155) rfl)), (mt_4 (List.mem_of_getElem? (i := 156) rfl))⟩
theorem ml_RX11_162 : Cond.methodLink RX11 162 yX4_read ∈ lw_tbl := (mt_3 (List.mem_of_getElem? (i := 158) rfl))
theorem ml_RX11_168 : Cond.methodLink RX11 168 yX7_becomeOne ∈ lw_tbl := (mt_4 (List.mem_of_getElem? (i := 154) rfl))
theorem ml_RX4_53 : Cond.methodLink RX4 53 yX4_split ∈ lw_tbl := (mt_3 (List.mem_of_getElem? (i := 162) rfl))
theorem ml_RX4_60 : Cond.methodLink RX4 60 yX4_clearDraft ∈ lw_tbl := (mt_4 (List.mem_of_getElem? (i := 61) rfl))
theorem ml_RX4_67 : Cond.methodLink RX4 67 yX4_mayBegin ∈ lw_tbl := (mt_4 (List.mem_of_getElem? (i := 77) rfl))
theorem ml_RX4_74 : Cond.methodLink RX4 74 yX4_readLaw ∈ lw_tbl := (mt_4 (List.mem_of_getElem? (i := 85) rfl))
theorem ml_RX4_78 : Cond.methodLink RX4 78 yX4_readRope ∈ lw_tbl := (mt_4 (List.mem_of_getElem? (i := 138) rfl))
theorem ml_RX4_81 : Cond.methodLink RX4 81 yX4_readDay ∈ lw_tbl := (mt_4 (List.mem_of_getElem? (i := 146) rfl))
theorem ml_RX4_84 : Cond.methodLink RX4 84 yX4_readChange ∈ lw_tbl := (mt_4 (List.mem_of_getElem? (i := 150) rfl))
theorem ml_RX4_114 : Cond.methodLink RX4 114 yX4_runFrom ∈ lw_tbl := (mt_3 (List.mem_of_getElem? (i := 166) rfl))
theorem ml_RX4_118 : Cond.methodLink RX4 118 yX4_isBlank ∈ lw_tbl := (mt_3 (List.mem_of_getElem? (i := 176) rfl))
theorem ml_RX4_121 : Cond.methodLink RX4 121 yX4_tokenKind ∈ lw_tbl := (mt_3 (List.mem_of_getElem? (i := 179) rfl))
theorem ml_RX4_125 : Cond.methodLink RX4 125 yX4_addToken ∈ lw_tbl := (mt_4 (List.mem_of_getElem? (i := 56) rfl))
theorem ml_RX4_135 : Cond.methodLink RX4 135 yX4_wordKind ∈ lw_tbl := (mt_3 (List.mem_of_getElem? (i := 183) rfl))
theorem ml_RX4_138 : Cond.methodLink RX4 138 yX4_numberKind ∈ lw_tbl := (mt_3 (List.mem_of_getElem? (i := 236) rfl))
set_option maxHeartbeats 4000000 in
set_option maxRecDepth 100000 in
theorem tX4_wordKind_8 {S : ev_S} {fu : Nat} {r : Int32 × ev_D} {F : ev_Fr} (hR : ev_R RX4 cX4_wordKind 7 4 0 0 false (some .int) S r F) (hT : ev_Ty S) (hC : sC S ≤ 0 ∧ sA S ≤ 0) : ∀ (n : Nat) (l0 : Nat) (l1 : Int32) (l2 : Int32) (l3 : Int32) (l4 : Int32) (l5 : Int32) (D : ev_D), sK S l0 = 7 → fX4_wordKind_8 (sL S) (sE S) fu n l0 l1 l2 l3 l4 l5 D = some r → F S D 8 [some (.ref l0), some (.int l1), some (.int l2), some (.int l3), some (.int l4), some (.int l5), none] [] := by
  have hX := hR.X
  intro n
  induction n with
  | zero =>
    intro l0 l1 l2 l3 l4 l5 D hl0 hf
    rw [fX4_wordKind_8] at hf
    cases hf
  | succ n ih =>
    intro l0 l1 l2 l3 l4 l5 D hl0 hf
    rw [fX4_wordKind_8] at hf
    refine ev_blk hX lkok_RX4 [(.iload 5, 2, 0, 0, 0)] (by decide +kernel) (g := true) (lv' := [some (.ref l0), some (.int l1), some (.int l2), some (.int l3), some (.int l4), some (.int l5), none]) (st' := [.int l5]) (D' := D) (pc' := 10) rfl (rfl) rfl ?_
    refine ev_slen hX (by decide +kernel) (by decide +kernel) (by decide) rfl hC ?_
    refine ev_ic_ge hX (off := 85) 100 (by decide +kernel) (by decide) (fun h2 => ?_) (fun h2 => ?_)
    · have hf := ev_it h2 hf
      refine ev_blk hX lkok_RX4 [(.iconst 1, 1, 0, 0, 1)] (by decide +kernel) (g := true) (lv' := [some (.ref l0), some (.int l1), some (.int l2), some (.int l3), some (.int l4), some (.int l5), none]) (st' := [.int (1 : Int32)]) (D' := D) (pc' := 101) rfl (rfl) rfl ?_
      exact ev_iret hR ev_sm.rf (Option.some.inj hf) hC (by decide +kernel)
    · have hf := ev_nf h2 hf
      obtain ⟨hg3, hf⟩ := ev_gd_s hf
      refine ev_schar hX (k := 5) rfl hg3 (by decide +kernel) (by decide +kernel) (by decide +kernel) (by decide) rfl hC ?_
      refine ev_blk hX lkok_RX4 [(.istore 6, 2, 0, 0, 0), (.iload 6, 2, 0, 0, 0), (.bipush 32, 2, 0, 0, 32)] (by decide +kernel) (g := true) (lv' := [some (.ref l0), some (.int l1), some (.int l2), some (.int l3), some (.int l4), some (.int l5), some (.int (es_ch l5))]) (st' := [.int (32 : Int32), .int (es_ch l5)]) (D' := D) (pc' := 31) rfl (rfl) rfl ?_
      refine ev_ic_ne hX (off := 26) 57 (by decide +kernel) (by decide) (fun h4 => ?_) (fun h4 => ?_)
      · have hf := ev_nf h4 hf
        refine ev_blk hX lkok_RX4 [(.iload 4, 2, 0, 0, 0), (.iconst (-1), 1, 0, 0, (-1))] (by decide +kernel) (g := true) (lv' := [some (.ref l0), some (.int l1), some (.int l2), some (.int l3), some (.int l4), some (.int l5), some (.int (es_ch l5))]) (st' := [.int (-1 : Int32), .int l4]) (D' := D) (pc' := 60) rfl (rfl) rfl ?_
        refine ev_ic_eq hX (off := 31) 91 (by decide +kernel) (by decide) (fun h5 => ?_) (fun h5 => ?_)
        · have hf := ev_it h5 hf
          refine ev_blk hX lkok_RX4 [(.iconst (-1), 1, 0, 0, (-1)), (.istore 4, 2, 0, 0, 0), (.iinc 5 1, 3, 0, 0, 1)] (by decide +kernel) (g := true) (lv' := [some (.ref l0), some (.int l1), some (.int l2), some (.int l3), some (.int (-1 : Int32)), some (.int (l5 + (1 : Int32))), some (.int (es_ch l5))]) (st' := []) (D' := D) (pc' := 97) rfl (rfl) rfl ?_
          refine ev_goto hX (off := (-89)) 8 (by decide +kernel) (by decide) ?_
          exact ev_weak hX (ev_le_eq (ev_le_eq (ev_le_eq (ev_le_eq (ev_le_eq (ev_le_eq (ev_le_no ev_le_nil))))))) (ih _ _ _ _ _ _ _ hl0 hf)
        · have hf := ev_nf h5 hf
          refine ev_blk hX lkok_RX4 [(.iload_n 1, 1, 0, 0, 0), (.iload 4, 2, 0, 0, 0), (.iadd, 1, 0, 0, 0), (.iload_n 2, 1, 0, 0, 0)] (by decide +kernel) (g := true) (lv' := [some (.ref l0), some (.int l1), some (.int l2), some (.int l3), some (.int l4), some (.int l5), some (.int (es_ch l5))]) (st' := [.int l2, .int (l1 + l4)]) (D' := D) (pc' := 68) rfl (rfl) rfl ?_
          refine ev_ic_ge hX (off := 23) 91 (by decide +kernel) (by decide) (fun h6 => ?_) (fun h6 => ?_)
          · have hf := ev_it h6 hf
            refine ev_blk hX lkok_RX4 [(.iconst (-1), 1, 0, 0, (-1)), (.istore 4, 2, 0, 0, 0), (.iinc 5 1, 3, 0, 0, 1)] (by decide +kernel) (g := true) (lv' := [some (.ref l0), some (.int l1), some (.int l2), some (.int l3), some (.int (-1 : Int32)), some (.int (l5 + (1 : Int32))), some (.int (es_ch l5))]) (st' := []) (D' := D) (pc' := 97) rfl (rfl) rfl ?_
            refine ev_goto hX (off := (-89)) 8 (by decide +kernel) (by decide) ?_
            exact ev_weak hX (ev_le_eq (ev_le_eq (ev_le_eq (ev_le_eq (ev_le_eq (ev_le_eq (ev_le_no ev_le_nil))))))) (ih _ _ _ _ _ _ _ hl0 hf)
          · have hf := ev_nf h6 hf
            obtain ⟨hg8, hf⟩ := ev_gd_s hf
            refine ev_blk hX lkok_RX4 [(.aload_n 0, 1, 0, 0, 0), (.getfield 28, 3, 4, 4, 0), (.iload_n 1, 1, 0, 0, 0), (.iload 4, 2, 0, 0, 0), (.iadd, 1, 0, 0, 0), (.iaload, 1, 0, 0, 0), (.iload 6, 2, 0, 0, 0)] (by decide +kernel) (g := (sK S l0 == 7) && ((sK S ((sE S) l0 4) == 1 && ev_in (l1 + l4) ((sL S) ((sE S) l0 4))) && (true))) (lv' := [some (.ref l0), some (.int l1), some (.int l2), some (.int l3), some (.int l4), some (.int l5), some (.int (es_ch l5))]) (st' := [.int (es_ch l5), .int (D ((sE S) l0 4) ((l1 + l4)).toNatClampNeg)]) (D' := D) (pc' := 82) rfl (ev_gk hl0 (ev_gi (ev_tyk hT hl0 rfl rfl) hg8 (rfl))) rfl ?_
            refine ev_ic_ne hX (off := 9) 91 (by decide +kernel) (by decide) (fun h7 => ?_) (fun h7 => ?_)
            · have hf := ev_nf h7 hf
              refine ev_blk hX lkok_RX4 [(.iconst (-1), 1, 0, 0, (-1)), (.istore 4, 2, 0, 0, 0), (.iinc 5 1, 3, 0, 0, 1)] (by decide +kernel) (g := true) (lv' := [some (.ref l0), some (.int l1), some (.int l2), some (.int l3), some (.int (-1 : Int32)), some (.int (l5 + (1 : Int32))), some (.int (es_ch l5))]) (st' := []) (D' := D) (pc' := 97) rfl (rfl) rfl ?_
              refine ev_goto hX (off := (-89)) 8 (by decide +kernel) (by decide) ?_
              exact ev_weak hX (ev_le_eq (ev_le_eq (ev_le_eq (ev_le_eq (ev_le_eq (ev_le_eq (ev_le_no ev_le_nil))))))) (ih _ _ _ _ _ _ _ hl0 hf)
            · have hf := ev_it h7 hf
              refine ev_blk hX lkok_RX4 [(.iinc 4 1, 3, 0, 0, 1)] (by decide +kernel) (g := true) (lv' := [some (.ref l0), some (.int l1), some (.int l2), some (.int l3), some (.int (l4 + (1 : Int32))), some (.int l5), some (.int (es_ch l5))]) (st' := []) (D' := D) (pc' := 88) rfl (rfl) rfl ?_
              refine ev_goto hX (off := 6) 94 (by decide +kernel) (by decide) ?_
              refine ev_blk hX lkok_RX4 [(.iinc 5 1, 3, 0, 0, 1)] (by decide +kernel) (g := true) (lv' := [some (.ref l0), some (.int l1), some (.int l2), some (.int l3), some (.int (l4 + (1 : Int32))), some (.int (l5 + (1 : Int32))), some (.int (es_ch l5))]) (st' := []) (D' := D) (pc' := 97) rfl (rfl) rfl ?_
              refine ev_goto hX (off := (-89)) 8 (by decide +kernel) (by decide) ?_
              exact ev_weak hX (ev_le_eq (ev_le_eq (ev_le_eq (ev_le_eq (ev_le_eq (ev_le_eq (ev_le_no ev_le_nil))))))) (ih _ _ _ _ _ _ _ hl0 hf)
      · have hf := ev_it h4 hf
        refine ev_blk hX lkok_RX4 [(.iload 4, 2, 0, 0, 0), (.iload_n 2, 1, 0, 0, 0), (.iload_n 1, 1, 0, 0, 0), (.isub, 1, 0, 0, 0)] (by decide +kernel) (g := true) (lv' := [some (.ref l0), some (.int l1), some (.int l2), some (.int l3), some (.int l4), some (.int l5), some (.int (es_ch l5))]) (st' := [.int (l2 - l1), .int l4]) (D' := D) (pc' := 39) rfl (rfl) rfl ?_
        refine ev_ic_ne hX (off := 9) 48 (by decide +kernel) (by decide) (fun h9 => ?_) (fun h9 => ?_)
        · have hf := ev_nf h9 hf
          refine ev_blk hX lkok_RX4 [(.iinc 3 1, 3, 0, 0, 1), (.iconst 0, 1, 0, 0, 0), (.istore 4, 2, 0, 0, 0)] (by decide +kernel) (g := true) (lv' := [some (.ref l0), some (.int l1), some (.int l2), some (.int (l3 + (1 : Int32))), some (.int (0 : Int32)), some (.int l5), some (.int (es_ch l5))]) (st' := []) (D' := D) (pc' := 54) rfl (rfl) rfl ?_
          refine ev_goto hX (off := 40) 94 (by decide +kernel) (by decide) ?_
          refine ev_blk hX lkok_RX4 [(.iinc 5 1, 3, 0, 0, 1)] (by decide +kernel) (g := true) (lv' := [some (.ref l0), some (.int l1), some (.int l2), some (.int (l3 + (1 : Int32))), some (.int (0 : Int32)), some (.int (l5 + (1 : Int32))), some (.int (es_ch l5))]) (st' := []) (D' := D) (pc' := 97) rfl (rfl) rfl ?_
          refine ev_goto hX (off := (-89)) 8 (by decide +kernel) (by decide) ?_
          exact ev_weak hX (ev_le_eq (ev_le_eq (ev_le_eq (ev_le_eq (ev_le_eq (ev_le_eq (ev_le_no ev_le_nil))))))) (ih _ _ _ _ _ _ _ hl0 hf)
        · have hf := ev_it h9 hf
          refine ev_blk hX lkok_RX4 [(.sipush 256, 3, 0, 0, 256), (.iload_n 3, 1, 0, 0, 0), (.iadd, 1, 0, 0, 0)] (by decide +kernel) (g := true) (lv' := [some (.ref l0), some (.int l1), some (.int l2), some (.int l3), some (.int l4), some (.int l5), some (.int (es_ch l5))]) (st' := [.int ((256 : Int32) + l3)]) (D' := D) (pc' := 47) rfl (rfl) rfl ?_
          exact ev_iret hR ev_sm.rf (Option.some.inj hf) hC (by decide +kernel)
set_option maxHeartbeats 4000000 in
set_option maxRecDepth 100000 in
theorem tX4_wordKind {S : ev_S} {fu : Nat} {r : Int32 × ev_D} {F : ev_Fr} (hR : ev_R RX4 cX4_wordKind 7 4 0 0 false (some .int) S r F) (hT : ev_Ty S) (hC : sC S ≤ 0 ∧ sA S ≤ 0) {l0 : Nat} {l1 : Int32} {l2 : Int32} {D : ev_D} (hl0 : sK S l0 = 7) (hf : fX4_wordKind (sL S) (sE S) fu l0 l1 l2 D = some r) : F S D 0 [some (.ref l0), some (.int l1), some (.int l2), none, none, none, none] [] := by
  have hX := hR.X
  unfold fX4_wordKind at hf
  refine ev_blk hX lkok_RX4 [(.iconst 0, 1, 0, 0, 0), (.istore_n 3, 1, 0, 0, 0), (.iconst 0, 1, 0, 0, 0), (.istore 4, 2, 0, 0, 0), (.iconst 0, 1, 0, 0, 0), (.istore 5, 2, 0, 0, 0)] (by decide +kernel) (g := true) (lv' := [some (.ref l0), some (.int l1), some (.int l2), some (.int (0 : Int32)), some (.int (0 : Int32)), some (.int (0 : Int32)), none]) (st' := []) (D' := D) (pc' := 8) rfl (rfl) rfl ?_
  exact ev_weak hX (ev_le_eq (ev_le_eq (ev_le_eq (ev_le_eq (ev_le_eq (ev_le_eq (ev_le_no ev_le_nil))))))) (tX4_wordKind_8 hR hT hC   fu _ _ _ _ _ _ _ hl0 hf)
theorem mX4_wordKind {S : ev_S} {fu : Nat} {r : Int32 × ev_D} (hT : ev_Ty S) {l0 : Nat} {l1 : Int32} {l2 : Int32} {D : ev_D} (hl0 : sK S l0 = 7) (hf : fX4_wordKind (sL S) (sE S) fu l0 l1 l2 D = some r) : ev_M 4 0 0 yX4_wordKind cX4_wordKind 7 (some .int) [.ref l0, .int l1, .int l2] S D S r :=
  ev_met (ini := false) (plainFor_of_name (by decide)) (fun h => by cases h) rfl (Nat.le_of_ble_eq_true rfl) (fun F hR => tX4_wordKind (S := ev_z S) hR hT ⟨Nat.le_refl 0, Nat.le_refl 0⟩ hl0 hf)
set_option maxHeartbeats 4000000 in
set_option maxRecDepth 100000 in
theorem tX4_tokenKind {S : ev_S} {fu : Nat} {r : Int32 × ev_D} {F : ev_Fr} (hR : ev_R RX4 cX4_tokenKind 4 5 0 0 false (some .int) S r F) (hT : ev_Ty S) (hC : sC S ≤ 0 ∧ sA S ≤ 0) {l0 : Nat} {l1 : Int32} {l2 : Int32} {D : ev_D} (hl0 : sK S l0 = 7) (hf : fX4_tokenKind (sL S) (sE S) fu l0 l1 l2 D = some r) : F S D 0 [some (.ref l0), some (.int l1), some (.int l2), none] [] := by
  have hX := hR.X
  unfold fX4_tokenKind at hf
  obtain ⟨hg9, hf⟩ := ev_gd_s hf
  refine ev_blk hX lkok_RX4 [(.aload_n 0, 1, 0, 0, 0), (.getfield 28, 3, 4, 4, 0), (.iload_n 1, 1, 0, 0, 0), (.iaload, 1, 0, 0, 0), (.istore_n 3, 1, 0, 0, 0), (.iload_n 3, 1, 0, 0, 0)] (by decide +kernel) (g := (sK S l0 == 7) && ((sK S ((sE S) l0 4) == 1 && ev_in l1 ((sL S) ((sE S) l0 4))) && (true))) (lv' := [some (.ref l0), some (.int l1), some (.int l2), some (.int (D ((sE S) l0 4) (l1).toNatClampNeg))]) (st' := [.int (D ((sE S) l0 4) (l1).toNatClampNeg)]) (D' := D) (pc' := 8) rfl (ev_gk hl0 (ev_gi (ev_tyk hT hl0 rfl rfl) hg9 (rfl))) rfl ?_
  obtain ⟨v1, D1, hc1, hf⟩ := ev_bd_s hf
  refine ev_callS hX YX4_isLetter ml_RX4_129 (mX4_isLetter hT  hc1) (vs := [.int (D ((sE S) l0 4) (l1).toNatClampNeg)]) (st := []) (by decide) rfl rfl (by decide +kernel) hC ?_
  show F S D1 11 [some (.ref l0), some (.int l1), some (.int l2), some (.int (D ((sE S) l0 4) (l1).toNatClampNeg))] [.int v1]
  refine ev_if_eq hX (off := 10) 21 (by decide +kernel) (by decide) (fun h2 => ?_) (fun h2 => ?_)
  · have hf := ev_it h2 hf
    refine ev_blk hX lkok_RX4 [(.iload_n 3, 1, 0, 0, 0)] (by decide +kernel) (g := true) (lv' := [some (.ref l0), some (.int l1), some (.int l2), some (.int (D ((sE S) l0 4) (l1).toNatClampNeg))]) (st' := [.int (D ((sE S) l0 4) (l1).toNatClampNeg)]) (D' := D1) (pc' := 22) rfl (rfl) rfl ?_
    obtain ⟨v3, D3, hc3, hf⟩ := ev_bd_s hf
    refine ev_callS hX YX4_isDigit ml_RX4_132 (mX4_isDigit hT  hc3) (vs := [.int (D ((sE S) l0 4) (l1).toNatClampNeg)]) (st := []) (by decide) rfl rfl (by decide +kernel) hC ?_
    show F S D3 25 [some (.ref l0), some (.int l1), some (.int l2), some (.int (D ((sE S) l0 4) (l1).toNatClampNeg))] [.int v3]
    refine ev_if_eq hX (off := 10) 35 (by decide +kernel) (by decide) (fun h4 => ?_) (fun h4 => ?_)
    · have hf := ev_it h4 hf
      refine ev_sidx hX (k := 3) rfl (by decide +kernel) (by decide +kernel) (by decide +kernel) (by decide +kernel) (by decide) rfl hC ?_
      refine ev_if_lt hX (off := 7) 49 (by decide +kernel) (by decide) (fun h6 => ?_) (fun h6 => ?_)
      · have hf := ev_it h6 hf
        refine ev_blk hX lkok_RX4 [(.iconst 1, 1, 0, 0, 1)] (by decide +kernel) (g := true) (lv' := [some (.ref l0), some (.int l1), some (.int l2), some (.int (D ((sE S) l0 4) (l1).toNatClampNeg))]) (st' := [.int (1 : Int32)]) (D' := D3) (pc' := 50) rfl (rfl) rfl ?_
        exact ev_iret hR ev_sm.rf (Option.some.inj hf) hC (by decide +kernel)
      · have hf := ev_nf h6 hf
        refine ev_blk hX lkok_RX4 [(.iload_n 3, 1, 0, 0, 0)] (by decide +kernel) (g := true) (lv' := [some (.ref l0), some (.int l1), some (.int l2), some (.int (D ((sE S) l0 4) (l1).toNatClampNeg))]) (st' := [.int (D ((sE S) l0 4) (l1).toNatClampNeg)]) (D' := D3) (pc' := 46) rfl (rfl) rfl ?_
        refine ev_goto hX (off := 4) 50 (by decide +kernel) (by decide) ?_
        exact ev_iret hR ev_sm.rf (Option.some.inj hf) hC (by decide +kernel)
    · have hf := ev_nf h4 hf
      refine ev_blk hX lkok_RX4 [(.aload_n 0, 1, 0, 0, 0), (.iload_n 1, 1, 0, 0, 0), (.iload_n 2, 1, 0, 0, 0)] (by decide +kernel) (g := true) (lv' := [some (.ref l0), some (.int l1), some (.int l2), some (.int (D ((sE S) l0 4) (l1).toNatClampNeg))]) (st' := [.int l2, .int l1, .ref l0]) (D' := D3) (pc' := 31) rfl (rfl) rfl ?_
      obtain ⟨v7, D7, hc7, hf⟩ := ev_bd_s hf
      refine ev_callV hX YX4_numberKind ml_RX4_138 (mX4_numberKind hT hl0 hc7) (vs := [.int l1, .int l2]) (st := []) (by decide) 4 hl0 rfl rfl rfl (by decide +kernel) hC ?_
      show F S D7 34 [some (.ref l0), some (.int l1), some (.int l2), some (.int (D ((sE S) l0 4) (l1).toNatClampNeg))] [.int v7]
      exact ev_iret hR ev_sm.rf (Option.some.inj hf) hC (by decide +kernel)
  · have hf := ev_nf h2 hf
    refine ev_blk hX lkok_RX4 [(.aload_n 0, 1, 0, 0, 0), (.iload_n 1, 1, 0, 0, 0), (.iload_n 2, 1, 0, 0, 0)] (by decide +kernel) (g := true) (lv' := [some (.ref l0), some (.int l1), some (.int l2), some (.int (D ((sE S) l0 4) (l1).toNatClampNeg))]) (st' := [.int l2, .int l1, .ref l0]) (D' := D1) (pc' := 17) rfl (rfl) rfl ?_
    obtain ⟨v8, D8, hc8, hf⟩ := ev_bd_s hf
    refine ev_callV hX YX4_wordKind ml_RX4_135 (mX4_wordKind hT hl0 hc8) (vs := [.int l1, .int l2]) (st := []) (by decide) 4 hl0 rfl rfl rfl (by decide +kernel) hC ?_
    show F S D8 20 [some (.ref l0), some (.int l1), some (.int l2), some (.int (D ((sE S) l0 4) (l1).toNatClampNeg))] [.int v8]
    exact ev_iret hR ev_sm.rf (Option.some.inj hf) hC (by decide +kernel)
theorem mX4_tokenKind {S : ev_S} {fu : Nat} {r : Int32 × ev_D} (hT : ev_Ty S) {l0 : Nat} {l1 : Int32} {l2 : Int32} {D : ev_D} (hl0 : sK S l0 = 7) (hf : fX4_tokenKind (sL S) (sE S) fu l0 l1 l2 D = some r) : ev_M 5 0 0 yX4_tokenKind cX4_tokenKind 4 (some .int) [.ref l0, .int l1, .int l2] S D S r :=
  ev_met (ini := false) (plainFor_of_name (by decide)) (fun h => by cases h) rfl (Nat.le_of_ble_eq_true rfl) (fun F hR => tX4_tokenKind (S := ev_z S) hR hT ⟨Nat.le_refl 0, Nat.le_refl 0⟩ hl0 hf)
set_option maxHeartbeats 4000000 in
set_option maxRecDepth 100000 in
theorem tX4_split_66 {S : ev_S} {fu : Nat} {r : Int32 × ev_D} {F : ev_Fr} (hR : ev_R RX4 cX4_split 4 6 0 0 false none S r F) (hT : ev_Ty S) (hC : sC S ≤ 0 ∧ sA S ≤ 0) {l0 : Nat} {D : ev_D} (hl0 : sK S l0 = 7) (hf : fX4_split_66 (sL S) (sE S) fu l0 D = some r) : F S D 66 [some (.ref l0), none, none, none] [] := by
  have hX := hR.X
  unfold fX4_split_66 at hf
  refine ev_blk hX lkok_RX4 [(.aload_n 0, 1, 0, 0, 0), (.iconst 0, 1, 0, 0, 0), (.aload_n 0, 1, 0, 0, 0), (.getfield 18, 3, 4, 1, 0)] (by decide +kernel) (g := (sK S l0 == 7) && (true)) (lv' := [some (.ref l0), none, none, none]) (st' := [.int (D l0 1), .int (0 : Int32), .ref l0]) (D' := D) (pc' := 72) rfl (ev_gk hl0 (rfl)) rfl ?_
  obtain ⟨v1, D1, hc1, hf⟩ := ev_bd_s hf
  refine ev_callV hX YX4_addToken ml_RX4_125 (mX4_addToken hT hl0 hc1) (vs := [.int (0 : Int32), .int (D l0 1)]) (st := []) (by decide) 4 hl0 rfl rfl rfl (by decide +kernel) hC ?_
  show F S D1 75 [some (.ref l0), none, none, none] []
  exact ev_vret hR ev_sm.rf (Option.some.inj hf) hC (by decide +kernel)
set_option maxHeartbeats 4000000 in
set_option maxRecDepth 100000 in
theorem tX4_split_14 {S : ev_S} {fu : Nat} {r : Int32 × ev_D} {F : ev_Fr} (hR : ev_R RX4 cX4_split 4 6 0 0 false none S r F) (hT : ev_Ty S) (hC : sC S ≤ 0 ∧ sA S ≤ 0) : ∀ (n : Nat) (l0 : Nat) (l1 : Int32) (l2 : Int32) (D : ev_D), sK S l0 = 7 → fX4_split_14 (sL S) (sE S) fu n l0 l1 l2 D = some r → F S D 14 [some (.ref l0), some (.int l1), some (.int l2), none] [] := by
  have hX := hR.X
  intro n
  induction n with
  | zero =>
    intro l0 l1 l2 D hl0 hf
    rw [fX4_split_14] at hf
    cases hf
  | succ n ih =>
    intro l0 l1 l2 D hl0 hf
    rw [fX4_split_14] at hf
    refine ev_blk hX lkok_RX4 [(.iload_n 2, 1, 0, 0, 0), (.sipush 400, 3, 0, 0, 400)] (by decide +kernel) (g := true) (lv' := [some (.ref l0), some (.int l1), some (.int l2), none]) (st' := [.int (400 : Int32), .int l2]) (D' := D) (pc' := 18) rfl (rfl) rfl ?_
    refine ev_ic_ge hX (off := 48) 66 (by decide +kernel) (by decide) (fun h2 => ?_) (fun h2 => ?_)
    · have hf := ev_it h2 hf
      exact ev_weak hX (ev_le_eq (ev_le_no (ev_le_no (ev_le_no ev_le_nil)))) (tX4_split_66 hR hT hC   hl0 hf)
    · have hf := ev_nf h2 hf
      refine ev_blk hX lkok_RX4 [(.iload_n 1, 1, 0, 0, 0), (.aload_n 0, 1, 0, 0, 0), (.getfield 18, 3, 4, 1, 0)] (by decide +kernel) (g := (sK S l0 == 7) && (true)) (lv' := [some (.ref l0), some (.int l1), some (.int l2), none]) (st' := [.int (D l0 1), .int l1]) (D' := D) (pc' := 26) rfl (ev_gk hl0 (rfl)) rfl ?_
      refine ev_ic_ge hX (off := 40) 66 (by decide +kernel) (by decide) (fun h3 => ?_) (fun h3 => ?_)
      · have hf := ev_it h3 hf
        exact ev_weak hX (ev_le_eq (ev_le_no (ev_le_no (ev_le_no ev_le_nil)))) (tX4_split_66 hR hT hC   hl0 hf)
      · have hf := ev_nf h3 hf
        refine ev_blk hX lkok_RX4 [(.aload_n 0, 1, 0, 0, 0), (.iload_n 1, 1, 0, 0, 0)] (by decide +kernel) (g := true) (lv' := [some (.ref l0), some (.int l1), some (.int l2), none]) (st' := [.int l1, .ref l0]) (D' := D) (pc' := 31) rfl (rfl) rfl ?_
        obtain ⟨v4, D4, hc4, hf⟩ := ev_bd_s hf
        refine ev_callV hX YX4_runFrom ml_RX4_114 (mX4_runFrom hT hl0 hc4) (vs := [.int l1]) (st := []) (by decide) 4 hl0 rfl rfl rfl (by decide +kernel) hC ?_
        show F S D4 34 [some (.ref l0), some (.int l1), some (.int l2), none] [.int v4]
        obtain ⟨hg9, hf⟩ := ev_gd_s hf
        refine ev_blk hX lkok_RX4 [(.istore_n 3, 1, 0, 0, 0), (.aload_n 0, 1, 0, 0, 0), (.getfield 28, 3, 4, 4, 0), (.iload_n 1, 1, 0, 0, 0), (.iaload, 1, 0, 0, 0)] (by decide +kernel) (g := (sK S l0 == 7) && ((sK S ((sE S) l0 4) == 1 && ev_in l1 ((sL S) ((sE S) l0 4))) && (true))) (lv' := [some (.ref l0), some (.int l1), some (.int l2), some (.int v4)]) (st' := [.int (D4 ((sE S) l0 4) (l1).toNatClampNeg)]) (D' := D4) (pc' := 41) rfl (ev_gk hl0 (ev_gi (ev_tyk hT hl0 rfl rfl) hg9 (rfl))) rfl ?_
        obtain ⟨v5, D5, hc5, hf⟩ := ev_bd_s hf
        refine ev_callS hX YX4_isBlank ml_RX4_118 (mX4_isBlank hT  hc5) (vs := [.int (D4 ((sE S) l0 4) (l1).toNatClampNeg)]) (st := []) (by decide) rfl rfl (by decide +kernel) hC ?_
        show F S D5 44 [some (.ref l0), some (.int l1), some (.int l2), some (.int v4)] [.int v5]
        refine ev_if_ne hX (off := 14) 58 (by decide +kernel) (by decide) (fun h6 => ?_) (fun h6 => ?_)
        · have hf := ev_nf h6 hf
          refine ev_blk hX lkok_RX4 [(.iload_n 3, 1, 0, 0, 0), (.istore_n 1, 1, 0, 0, 0), (.iinc 2 1, 3, 0, 0, 1)] (by decide +kernel) (g := true) (lv' := [some (.ref l0), some (.int v4), some (.int (l2 + (1 : Int32))), some (.int v4)]) (st' := []) (D' := D5) (pc' := 63) rfl (rfl) rfl ?_
          refine ev_goto hX (off := (-49)) 14 (by decide +kernel) (by decide) ?_
          exact ev_weak hX (ev_le_eq (ev_le_eq (ev_le_eq (ev_le_no ev_le_nil)))) (ih _ _ _ _ hl0 hf)
        · have hf := ev_it h6 hf
          refine ev_blk hX lkok_RX4 [(.aload_n 0, 1, 0, 0, 0), (.aload_n 0, 1, 0, 0, 0), (.iload_n 1, 1, 0, 0, 0), (.iload_n 3, 1, 0, 0, 0)] (by decide +kernel) (g := true) (lv' := [some (.ref l0), some (.int l1), some (.int l2), some (.int v4)]) (st' := [.int v4, .int l1, .ref l0, .ref l0]) (D' := D5) (pc' := 51) rfl (rfl) rfl ?_
          obtain ⟨v7, D7, hc7, hf⟩ := ev_bd_s hf
          refine ev_callV hX YX4_tokenKind ml_RX4_121 (mX4_tokenKind hT hl0 hc7) (vs := [.int l1, .int v4]) (st := [.ref l0]) (by decide) 4 hl0 rfl rfl rfl (by decide +kernel) hC ?_
          show F S D7 54 [some (.ref l0), some (.int l1), some (.int l2), some (.int v4)] [.int v7, .ref l0]
          refine ev_blk hX lkok_RX4 [(.iload_n 1, 1, 0, 0, 0)] (by decide +kernel) (g := true) (lv' := [some (.ref l0), some (.int l1), some (.int l2), some (.int v4)]) (st' := [.int l1, .int v7, .ref l0]) (D' := D7) (pc' := 55) rfl (rfl) rfl ?_
          obtain ⟨v8, D8, hc8, hf⟩ := ev_bd_s hf
          refine ev_callV hX YX4_addToken ml_RX4_125 (mX4_addToken hT hl0 hc8) (vs := [.int v7, .int l1]) (st := []) (by decide) 4 hl0 rfl rfl rfl (by decide +kernel) hC ?_
          show F S D8 58 [some (.ref l0), some (.int l1), some (.int l2), some (.int v4)] []
          refine ev_blk hX lkok_RX4 [(.iload_n 3, 1, 0, 0, 0), (.istore_n 1, 1, 0, 0, 0), (.iinc 2 1, 3, 0, 0, 1)] (by decide +kernel) (g := true) (lv' := [some (.ref l0), some (.int v4), some (.int (l2 + (1 : Int32))), some (.int v4)]) (st' := []) (D' := D8) (pc' := 63) rfl (rfl) rfl ?_
          refine ev_goto hX (off := (-49)) 14 (by decide +kernel) (by decide) ?_
          exact ev_weak hX (ev_le_eq (ev_le_eq (ev_le_eq (ev_le_no ev_le_nil)))) (ih _ _ _ _ hl0 hf)
set_option maxHeartbeats 4000000 in
set_option maxRecDepth 100000 in
theorem tX4_split {S : ev_S} {fu : Nat} {r : Int32 × ev_D} {F : ev_Fr} (hR : ev_R RX4 cX4_split 4 6 0 0 false none S r F) (hT : ev_Ty S) (hC : sC S ≤ 0 ∧ sA S ≤ 0) {l0 : Nat} {D : ev_D} (hl0 : sK S l0 = 7) (hf : fX4_split (sL S) (sE S) fu l0 D = some r) : F S D 0 [some (.ref l0), none, none, none] [] := by
  have hX := hR.X
  unfold fX4_split at hf
  refine ev_blk hX lkok_RX4 [(.aload_n 0, 1, 0, 0, 0), (.iconst 0, 1, 0, 0, 0), (.putfield 41, 3, 4, 8, 0), (.aload_n 0, 1, 0, 0, 0), (.iconst 0, 1, 0, 0, 0), (.putfield 44, 3, 4, 9, 0), (.iconst 0, 1, 0, 0, 0), (.istore_n 1, 1, 0, 0, 0), (.iconst 0, 1, 0, 0, 0), (.istore_n 2, 1, 0, 0, 0)] (by decide +kernel) (g := (sK S l0 == 7) && ((sK S l0 == 7) && (true))) (lv' := [some (.ref l0), some (.int (0 : Int32)), some (.int (0 : Int32)), none]) (st' := []) (D' := (ev_up (ev_up D l0 8 (0 : Int32)) l0 9 (0 : Int32))) (pc' := 14) rfl (ev_gk hl0 (ev_gk hl0 (rfl))) rfl ?_
  exact ev_weak hX (ev_le_eq (ev_le_eq (ev_le_eq (ev_le_no ev_le_nil)))) (tX4_split_14 hR hT hC   fu _ _ _ _ hl0 hf)
theorem mX4_split {S : ev_S} {fu : Nat} {r : Int32 × ev_D} (hT : ev_Ty S) {l0 : Nat} {D : ev_D} (hl0 : sK S l0 = 7) (hf : fX4_split (sL S) (sE S) fu l0 D = some r) : ev_M 6 0 0 yX4_split cX4_split 4 none [.ref l0] S D S r :=
  ev_met (ini := false) (plainFor_of_name (by decide)) (fun h => by cases h) rfl (Nat.le_of_ble_eq_true rfl) (fun F hR => tX4_split (S := ev_z S) hR hT ⟨Nat.le_refl 0, Nat.le_refl 0⟩ hl0 hf)
set_option maxHeartbeats 4000000 in
set_option maxRecDepth 100000 in
theorem tX4_read_125 {S : ev_S} {fu : Nat} {r : Int32 × ev_D} {F : ev_Fr} (hR : ev_R RX4 cX4_read 5 26 0 0 false (some .int) S r F) (hT : ev_Ty S) (hC : sC S ≤ 0 ∧ sA S ≤ 0) {k41 : Nat → Int32 → Int32 → ev_D → ev_Op} (hk41 : ∀ (l0 : Nat) (l1 : Int32) (l3 : Int32) (D : ev_D), sK S l0 = 7 → k41 l0 l1 l3 D = some r → F S D 41 [some (.ref l0), some (.int l1), none, some (.int l3), none] []) {l0 : Nat} {l1 : Int32} {l3 : Int32} {s0 : Int32} {D : ev_D} (hl0 : sK S l0 = 7) (hf : fX4_read_125 (sL S) (sE S) fu k41 l0 l1 l3 s0 D = some r) : F S D 125 [some (.ref l0), some (.int l1), none, some (.int l3), none] [.int s0] := by
  have hX := hR.X
  unfold fX4_read_125 at hf
  refine ev_blk hX lkok_RX4 [(.istore 4, 2, 0, 0, 0), (.iload 4, 2, 0, 0, 0)] (by decide +kernel) (g := true) (lv' := [some (.ref l0), some (.int l1), none, some (.int l3), some (.int s0)]) (st' := [.int s0]) (D' := D) (pc' := 129) rfl (rfl) rfl ?_
  refine ev_if_eq hX (off := 12) 141 (by decide +kernel) (by decide) (fun h1 => ?_) (fun h1 => ?_)
  · have hf := ev_it h1 hf
    refine ev_blk hX lkok_RX4 [(.iconst (-1), 1, 0, 0, (-1))] (by decide +kernel) (g := true) (lv' := [some (.ref l0), some (.int l1), none, some (.int l3), some (.int s0)]) (st' := [.int (-1 : Int32)]) (D' := D) (pc' := 142) rfl (rfl) rfl ?_
    exact ev_iret hR ev_sm.rf (Option.some.inj hf) hC (by decide +kernel)
  · have hf := ev_nf h1 hf
    refine ev_blk hX lkok_RX4 [(.aload_n 0, 1, 0, 0, 0), (.bipush 59, 2, 0, 0, 59)] (by decide +kernel) (g := true) (lv' := [some (.ref l0), some (.int l1), none, some (.int l3), some (.int s0)]) (st' := [.int (59 : Int32), .ref l0]) (D' := D) (pc' := 135) rfl (rfl) rfl ?_
    obtain ⟨v2, D2, hc2, hf⟩ := ev_bd_s hf
    refine ev_callV hX YX4_take ml_RX4_87 (mX4_take hT hl0 hc2) (vs := [.int (59 : Int32)]) (st := []) (by decide) 4 hl0 rfl rfl rfl (by decide +kernel) hC ?_
    show F S D2 138 [some (.ref l0), some (.int l1), none, some (.int l3), some (.int s0)] [.int v2]
    refine ev_if_ne hX (off := 5) 143 (by decide +kernel) (by decide) (fun h3 => ?_) (fun h3 => ?_)
    · have hf := ev_nf h3 hf
      refine ev_blk hX lkok_RX4 [(.iinc 3 1, 3, 0, 0, 1)] (by decide +kernel) (g := true) (lv' := [some (.ref l0), some (.int l1), none, some (.int (l3 + (1 : Int32))), some (.int s0)]) (st' := []) (D' := D2) (pc' := 146) rfl (rfl) rfl ?_
      refine ev_goto hX (off := (-105)) 41 (by decide +kernel) (by decide) ?_
      exact ev_weak hX (ev_le_eq (ev_le_eq (ev_le_no (ev_le_eq (ev_le_no ev_le_nil))))) (hk41 _ _ _ _ hl0 hf)
    · have hf := ev_it h3 hf
      refine ev_blk hX lkok_RX4 [(.iconst (-1), 1, 0, 0, (-1))] (by decide +kernel) (g := true) (lv' := [some (.ref l0), some (.int l1), none, some (.int l3), some (.int s0)]) (st' := [.int (-1 : Int32)]) (D' := D2) (pc' := 142) rfl (rfl) rfl ?_
      exact ev_iret hR ev_sm.rf (Option.some.inj hf) hC (by decide +kernel)
set_option maxHeartbeats 4000000 in
set_option maxRecDepth 100000 in
theorem tX4_read_41 {S : ev_S} {fu : Nat} {r : Int32 × ev_D} {F : ev_Fr} (hR : ev_R RX4 cX4_read 5 26 0 0 false (some .int) S r F) (hT : ev_Ty S) (hC : sC S ≤ 0 ∧ sA S ≤ 0) : ∀ (n : Nat) (l0 : Nat) (l1 : Int32) (l3 : Int32) (D : ev_D), sK S l0 = 7 → fX4_read_41 (sL S) (sE S) fu n l0 l1 l3 D = some r → F S D 41 [some (.ref l0), some (.int l1), none, some (.int l3), none] [] := by
  have hX := hR.X
  intro n
  induction n with
  | zero =>
    intro l0 l1 l3 D hl0 hf
    rw [fX4_read_41] at hf
    cases hf
  | succ n ih =>
    intro l0 l1 l3 D hl0 hf
    rw [fX4_read_41] at hf
    refine ev_blk hX lkok_RX4 [(.iload_n 3, 1, 0, 0, 0), (.bipush 16, 2, 0, 0, 16)] (by decide +kernel) (g := true) (lv' := [some (.ref l0), some (.int l1), none, some (.int l3), none]) (st' := [.int (16 : Int32), .int l3]) (D' := D) (pc' := 44) rfl (rfl) rfl ?_
    refine ev_ic_gt hX (off := 105) 149 (by decide +kernel) (by decide) (fun h4 => ?_) (fun h4 => ?_)
    · have hf := ev_it h4 hf
      refine ev_blk hX lkok_RX4 [(.iconst (-1), 1, 0, 0, (-1))] (by decide +kernel) (g := true) (lv' := [some (.ref l0), some (.int l1), none, some (.int l3), none]) (st' := [.int (-1 : Int32)]) (D' := D) (pc' := 150) rfl (rfl) rfl ?_
      exact ev_iret hR ev_sm.rf (Option.some.inj hf) hC (by decide +kernel)
    · have hf := ev_nf h4 hf
      refine ev_blk hX lkok_RX4 [(.aload_n 0, 1, 0, 0, 0)] (by decide +kernel) (g := true) (lv' := [some (.ref l0), some (.int l1), none, some (.int l3), none]) (st' := [.ref l0]) (D' := D) (pc' := 48) rfl (rfl) rfl ?_
      obtain ⟨v5, D5, hc5, hf⟩ := ev_bd_s hf
      refine ev_callV hX YX4_kind ml_RX4_63 (mX4_kind hT hl0 hc5) (vs := []) (st := []) (by decide) 4 hl0 rfl rfl rfl (by decide +kernel) hC ?_
      show F S D5 51 [some (.ref l0), some (.int l1), none, some (.int l3), none] [.int v5]
      refine ev_if_ne hX (off := 5) 56 (by decide +kernel) (by decide) (fun h6 => ?_) (fun h6 => ?_)
      · have hf := ev_nf h6 hf
        refine ev_blk hX lkok_RX4 [(.aload_n 0, 1, 0, 0, 0), (.iload_n 1, 1, 0, 0, 0)] (by decide +kernel) (g := true) (lv' := [some (.ref l0), some (.int l1), none, some (.int l3), none]) (st' := [.int l1, .ref l0]) (D' := D5) (pc' := 58) rfl (rfl) rfl ?_
        obtain ⟨v7, D7, hc7, hf⟩ := ev_bd_s hf
        refine ev_callV hX YX4_mayBegin ml_RX4_67 (mX4_mayBegin hT hl0 hc7) (vs := [.int l1]) (st := []) (by decide) 4 hl0 rfl rfl rfl (by decide +kernel) hC ?_
        show F S D7 61 [some (.ref l0), some (.int l1), none, some (.int l3), none] [.int v7]
        refine ev_if_ne hX (off := 11) 72 (by decide +kernel) (by decide) (fun h8 => ?_) (fun h8 => ?_)
        · have hf := ev_nf h8 hf
          refine ev_blk hX lkok_RX4 [(.iload_n 3, 1, 0, 0, 0), (.bipush 16, 2, 0, 0, 16)] (by decide +kernel) (g := true) (lv' := [some (.ref l0), some (.int l1), none, some (.int l3), none]) (st' := [.int (16 : Int32), .int l3]) (D' := D7) (pc' := 75) rfl (rfl) rfl ?_
          refine ev_ic_ne hX (off := 11) 86 (by decide +kernel) (by decide) (fun h9 => ?_) (fun h9 => ?_)
          · have hf := ev_nf h9 hf
            refine ev_blk hX lkok_RX4 [(.iload_n 1, 1, 0, 0, 0)] (by decide +kernel) (g := true) (lv' := [some (.ref l0), some (.int l1), none, some (.int l3), none]) (st' := [.int l1]) (D' := D7) (pc' := 87) rfl (rfl) rfl ?_
            refine ev_if_ne hX (off := 10) 97 (by decide +kernel) (by decide) (fun h10 => ?_) (fun h10 => ?_)
            · have hf := ev_nf h10 hf
              refine ev_blk hX lkok_RX4 [(.iload_n 1, 1, 0, 0, 0), (.iconst 1, 1, 0, 0, 1)] (by decide +kernel) (g := true) (lv' := [some (.ref l0), some (.int l1), none, some (.int l3), none]) (st' := [.int (1 : Int32), .int l1]) (D' := D7) (pc' := 99) rfl (rfl) rfl ?_
              refine ev_ic_ne hX (off := 10) 109 (by decide +kernel) (by decide) (fun h11 => ?_) (fun h11 => ?_)
              · have hf := ev_nf h11 hf
                refine ev_blk hX lkok_RX4 [(.iload_n 1, 1, 0, 0, 0), (.iconst 2, 1, 0, 0, 2)] (by decide +kernel) (g := true) (lv' := [some (.ref l0), some (.int l1), none, some (.int l3), none]) (st' := [.int (2 : Int32), .int l1]) (D' := D7) (pc' := 111) rfl (rfl) rfl ?_
                refine ev_ic_ne hX (off := 10) 121 (by decide +kernel) (by decide) (fun h12 => ?_) (fun h12 => ?_)
                · have hf := ev_nf h12 hf
                  refine ev_blk hX lkok_RX4 [(.aload_n 0, 1, 0, 0, 0)] (by decide +kernel) (g := true) (lv' := [some (.ref l0), some (.int l1), none, some (.int l3), none]) (st' := [.ref l0]) (D' := D7) (pc' := 122) rfl (rfl) rfl ?_
                  obtain ⟨v13, D13, hc13, hf⟩ := ev_bd_s hf
                  refine ev_callV hX YX4_readChange ml_RX4_84 (mX4_readChange hT hl0 hc13) (vs := []) (st := []) (by decide) 4 hl0 rfl rfl rfl (by decide +kernel) hC ?_
                  show F S D13 125 [some (.ref l0), some (.int l1), none, some (.int l3), none] [.int v13]
                  exact ev_weak hX (ev_le_eq (ev_le_eq (ev_le_no (ev_le_eq (ev_le_no ev_le_nil))))) (tX4_read_125 hR hT hC  ih hl0 hf)
                · have hf := ev_it h12 hf
                  refine ev_blk hX lkok_RX4 [(.aload_n 0, 1, 0, 0, 0)] (by decide +kernel) (g := true) (lv' := [some (.ref l0), some (.int l1), none, some (.int l3), none]) (st' := [.ref l0]) (D' := D7) (pc' := 115) rfl (rfl) rfl ?_
                  obtain ⟨v14, D14, hc14, hf⟩ := ev_bd_s hf
                  refine ev_callV hX YX4_readDay ml_RX4_81 (mX4_readDay hT hl0 hc14) (vs := []) (st := []) (by decide) 4 hl0 rfl rfl rfl (by decide +kernel) hC ?_
                  show F S D14 118 [some (.ref l0), some (.int l1), none, some (.int l3), none] [.int v14]
                  refine ev_goto hX (off := 7) 125 (by decide +kernel) (by decide) ?_
                  exact ev_weak hX (ev_le_eq (ev_le_eq (ev_le_no (ev_le_eq (ev_le_no ev_le_nil))))) (tX4_read_125 hR hT hC  ih hl0 hf)
              · have hf := ev_it h11 hf
                refine ev_blk hX lkok_RX4 [(.aload_n 0, 1, 0, 0, 0)] (by decide +kernel) (g := true) (lv' := [some (.ref l0), some (.int l1), none, some (.int l3), none]) (st' := [.ref l0]) (D' := D7) (pc' := 103) rfl (rfl) rfl ?_
                obtain ⟨v15, D15, hc15, hf⟩ := ev_bd_s hf
                refine ev_callV hX YX4_readRope ml_RX4_78 (mX4_readRope hT hl0 hc15) (vs := []) (st := []) (by decide) 4 hl0 rfl rfl rfl (by decide +kernel) hC ?_
                show F S D15 106 [some (.ref l0), some (.int l1), none, some (.int l3), none] [.int v15]
                refine ev_goto hX (off := 19) 125 (by decide +kernel) (by decide) ?_
                exact ev_weak hX (ev_le_eq (ev_le_eq (ev_le_no (ev_le_eq (ev_le_no ev_le_nil))))) (tX4_read_125 hR hT hC  ih hl0 hf)
            · have hf := ev_it h10 hf
              refine ev_blk hX lkok_RX4 [(.aload_n 0, 1, 0, 0, 0)] (by decide +kernel) (g := true) (lv' := [some (.ref l0), some (.int l1), none, some (.int l3), none]) (st' := [.ref l0]) (D' := D7) (pc' := 91) rfl (rfl) rfl ?_
              obtain ⟨v16, D16, hc16, hf⟩ := ev_bd_s hf
              refine ev_callV hX YX4_readLaw ml_RX4_74 (mX4_readLaw hT hl0 hc16) (vs := []) (st := []) (by decide) 4 hl0 rfl rfl rfl (by decide +kernel) hC ?_
              show F S D16 94 [some (.ref l0), some (.int l1), none, some (.int l3), none] [.int v16]
              refine ev_goto hX (off := 31) 125 (by decide +kernel) (by decide) ?_
              exact ev_weak hX (ev_le_eq (ev_le_eq (ev_le_no (ev_le_eq (ev_le_no ev_le_nil))))) (tX4_read_125 hR hT hC  ih hl0 hf)
          · have hf := ev_it h9 hf
            refine ev_blk hX lkok_RX4 [(.aload_n 0, 1, 0, 0, 0), (.iconst 3, 1, 0, 0, 3)] (by decide +kernel) (g := true) (lv' := [some (.ref l0), some (.int l1), none, some (.int l3), none]) (st' := [.int (3 : Int32), .ref l0]) (D' := D7) (pc' := 80) rfl (rfl) rfl ?_
            obtain ⟨v17, D17, hc17, hf⟩ := ev_bd_s hf
            refine ev_callV hX YX4_refuse ml_RX4_71 (mX4_refuse hT hl0 hc17) (vs := [.int (3 : Int32)]) (st := []) (by decide) 4 hl0 rfl rfl rfl (by decide +kernel) hC ?_
            show F S D17 83 [some (.ref l0), some (.int l1), none, some (.int l3), none] [.int v17]
            refine ev_blk hX lkok_RX4 [(.pop, 1, 0, 0, 0), (.iconst (-1), 1, 0, 0, (-1))] (by decide +kernel) (g := true) (lv' := [some (.ref l0), some (.int l1), none, some (.int l3), none]) (st' := [.int (-1 : Int32)]) (D' := D17) (pc' := 85) rfl (rfl) rfl ?_
            exact ev_iret hR ev_sm.rf (Option.some.inj hf) hC (by decide +kernel)
        · have hf := ev_it h8 hf
          refine ev_blk hX lkok_RX4 [(.aload_n 0, 1, 0, 0, 0), (.iconst 1, 1, 0, 0, 1)] (by decide +kernel) (g := true) (lv' := [some (.ref l0), some (.int l1), none, some (.int l3), none]) (st' := [.int (1 : Int32), .ref l0]) (D' := D7) (pc' := 66) rfl (rfl) rfl ?_
          obtain ⟨v18, D18, hc18, hf⟩ := ev_bd_s hf
          refine ev_callV hX YX4_refuse ml_RX4_71 (mX4_refuse hT hl0 hc18) (vs := [.int (1 : Int32)]) (st := []) (by decide) 4 hl0 rfl rfl rfl (by decide +kernel) hC ?_
          show F S D18 69 [some (.ref l0), some (.int l1), none, some (.int l3), none] [.int v18]
          refine ev_blk hX lkok_RX4 [(.pop, 1, 0, 0, 0), (.iconst (-1), 1, 0, 0, (-1))] (by decide +kernel) (g := true) (lv' := [some (.ref l0), some (.int l1), none, some (.int l3), none]) (st' := [.int (-1 : Int32)]) (D' := D18) (pc' := 71) rfl (rfl) rfl ?_
          exact ev_iret hR ev_sm.rf (Option.some.inj hf) hC (by decide +kernel)
      · have hf := ev_it h6 hf
        refine ev_blk hX lkok_RX4 [(.iload_n 3, 1, 0, 0, 0)] (by decide +kernel) (g := true) (lv' := [some (.ref l0), some (.int l1), none, some (.int l3), none]) (st' := [.int l3]) (D' := D5) (pc' := 55) rfl (rfl) rfl ?_
        exact ev_iret hR ev_sm.rf (Option.some.inj hf) hC (by decide +kernel)
set_option maxHeartbeats 4000000 in
set_option maxRecDepth 100000 in
theorem tX4_read {S : ev_S} {fu : Nat} {r : Int32 × ev_D} {F : ev_Fr} (hR : ev_R RX4 cX4_read 5 26 0 0 false (some .int) S r F) (hT : ev_Ty S) (hC : sC S ≤ 0 ∧ sA S ≤ 0) {l0 : Nat} {l1 : Int32} {l2 : Int32} {D : ev_D} (hl0 : sK S l0 = 7) (hf : fX4_read (sL S) (sE S) fu l0 l1 l2 D = some r) : F S D 0 [some (.ref l0), some (.int l1), some (.int l2), none, none] [] := by
  have hX := hR.X
  unfold fX4_read at hf
  refine ev_blk hX lkok_RX4 [(.aload_n 0, 1, 0, 0, 0), (.iconst 0, 1, 0, 0, 0), (.putfield 22, 3, 4, 2, 0), (.aload_n 0, 1, 0, 0, 0), (.iconst (-1), 1, 0, 0, (-1)), (.putfield 25, 3, 4, 3, 0), (.aload_n 0, 1, 0, 0, 0), (.iload_n 2, 1, 0, 0, 0), (.putfield 50, 3, 4, 11, 0), (.aload_n 0, 1, 0, 0, 0)] (by decide +kernel) (g := (sK S l0 == 7) && ((sK S l0 == 7) && ((sK S l0 == 7) && (true)))) (lv' := [some (.ref l0), some (.int l1), some (.int l2), none, none]) (st' := [.ref l0]) (D' := (ev_up (ev_up (ev_up D l0 2 (0 : Int32)) l0 3 (-1 : Int32)) l0 11 l2)) (pc' := 16) rfl (ev_gk hl0 (ev_gk hl0 (ev_gk hl0 (rfl)))) rfl ?_
  obtain ⟨v19, D19, hc19, hf⟩ := ev_bd_s hf
  refine ev_callV hX YX4_split ml_RX4_53 (mX4_split hT hl0 hc19) (vs := []) (st := []) (by decide) 4 hl0 rfl rfl rfl (by decide +kernel) hC ?_
  show F S D19 19 [some (.ref l0), some (.int l1), some (.int l2), none, none] []
  refine ev_blk hX lkok_RX4 [(.aload_n 0, 1, 0, 0, 0), (.iconst 0, 1, 0, 0, 0), (.putfield 18, 3, 4, 1, 0), (.iload_n 1, 1, 0, 0, 0), (.iconst 0, 1, 0, 0, 0), (.iconst 3, 1, 0, 0, 3)] (by decide +kernel) (g := (sK S l0 == 7) && (true)) (lv' := [some (.ref l0), some (.int l1), some (.int l2), none, none]) (st' := [.int (3 : Int32), .int (0 : Int32), .int l1]) (D' := (ev_up D19 l0 1 (0 : Int32))) (pc' := 27) rfl (ev_gk hl0 (rfl)) rfl ?_
  obtain ⟨v20, D20, hc20, hf⟩ := ev_bd_s hf
  refine ev_callSN hX YX11_within ml_RX4_56 (mX11_within hT  hc20) (vs := [.int l1, .int (0 : Int32), .int (3 : Int32)]) (st := []) (by decide) rfl rfl (by decide +kernel) hC ?_
  show F S D20 30 [some (.ref l0), some (.int l1), some (.int l2), none, none] [.int v20]
  refine ev_if_ne hX (off := 5) 35 (by decide +kernel) (by decide) (fun h21 => ?_) (fun h21 => ?_)
  · have hf := ev_nf h21 hf
    refine ev_blk hX lkok_RX4 [(.aload_n 0, 1, 0, 0, 0)] (by decide +kernel) (g := true) (lv' := [some (.ref l0), some (.int l1), some (.int l2), none, none]) (st' := [.ref l0]) (D' := D20) (pc' := 36) rfl (rfl) rfl ?_
    obtain ⟨v22, D22, hc22, hf⟩ := ev_bd_s hf
    refine ev_callV hX YX4_clearDraft ml_RX4_60 (mX4_clearDraft hT hl0 hc22) (vs := []) (st := []) (by decide) 4 hl0 rfl rfl rfl (by decide +kernel) hC ?_
    show F S D22 39 [some (.ref l0), some (.int l1), some (.int l2), none, none] []
    refine ev_blk hX lkok_RX4 [(.iconst 0, 1, 0, 0, 0), (.istore_n 3, 1, 0, 0, 0)] (by decide +kernel) (g := true) (lv' := [some (.ref l0), some (.int l1), some (.int l2), some (.int (0 : Int32)), none]) (st' := []) (D' := D22) (pc' := 41) rfl (rfl) rfl ?_
    exact ev_weak hX (ev_le_eq (ev_le_eq (ev_le_no (ev_le_eq (ev_le_no ev_le_nil))))) (tX4_read_41 hR hT hC   fu _ _ _ _ hl0 hf)
  · have hf := ev_it h21 hf
    refine ev_blk hX lkok_RX4 [(.iconst (-1), 1, 0, 0, (-1))] (by decide +kernel) (g := true) (lv' := [some (.ref l0), some (.int l1), some (.int l2), none, none]) (st' := [.int (-1 : Int32)]) (D' := D20) (pc' := 34) rfl (rfl) rfl ?_
    exact ev_iret hR ev_sm.rf (Option.some.inj hf) hC (by decide +kernel)
theorem mX4_read {S : ev_S} {fu : Nat} {r : Int32 × ev_D} (hT : ev_Ty S) {l0 : Nat} {l1 : Int32} {l2 : Int32} {D : ev_D} (hl0 : sK S l0 = 7) (hf : fX4_read (sL S) (sE S) fu l0 l1 l2 D = some r) : ev_M 26 0 0 yX4_read cX4_read 5 (some .int) [.ref l0, .int l1, .int l2] S D S r :=
  ev_met (ini := false) (plainFor_of_name (by decide)) (fun h => by cases h) rfl (Nat.le_of_ble_eq_true rfl) (fun F hR => tX4_read (S := ev_z S) hR hT ⟨Nat.le_refl 0, Nat.le_refl 0⟩ hl0 hf)
set_option maxHeartbeats 4000000 in
set_option maxRecDepth 100000 in
theorem tX11_text {S : ev_S} {fu : Nat} {r : Int32 × ev_D} {F : ev_Fr} (hR : ev_R RX11 cX11_text 3 27 0 0 false (some .int) S r F) (hT : ev_Ty S) (hC : sC S ≤ 0 ∧ sA S ≤ 0) {l0 : Nat} {l1 : Int32} {D : ev_D} (hl0 : sK S l0 = 14) (hf : fX11_text (sL S) (sE S) fu l0 l1 D = some r) : F S D 0 [some (.ref l0), some (.int l1), none] [] := by
  have hX := hR.X
  unfold fX11_text at hf
  refine ev_blk hX lkok_RX11 [(.aload_n 0, 1, 0, 0, 0), (.getfield 26, 3, 11, 2, 0), (.iload_n 1, 1, 0, 0, 0), (.aload_n 0, 1, 0, 0, 0), (.getfield 10, 3, 11, 0, 0), (.getfield 32, 3, 10, 0, 0), (.getfield 159, 3, 9, 5, 0)] (by decide +kernel) (g := (sK S l0 == 14) && ((sK S l0 == 14) && ((sK S ((sE S) l0 0) == 13) && ((sK S ((sE S) ((sE S) l0 0) 0) == 12) && (true))))) (lv' := [some (.ref l0), some (.int l1), none]) (st' := [.int (D ((sE S) ((sE S) l0 0) 0) 5), .int l1, .ref ((sE S) l0 2)]) (D' := D) (pc' := 15) rfl (ev_gk hl0 (ev_gk hl0 (ev_gk (ev_tyk hT hl0 rfl rfl) (ev_gk (ev_tyk hT (ev_tyk hT hl0 rfl rfl) rfl rfl) (rfl))))) rfl ?_
  obtain ⟨v1, D1, hc1, hf⟩ := ev_bd_s hf
  refine ev_callV hX YX4_read ml_RX11_162 (mX4_read hT (ev_tyk hT hl0 rfl rfl) hc1) (vs := [.int l1, .int (D ((sE S) ((sE S) l0 0) 0) 5)]) (st := []) (by decide) 4 (ev_tyk hT hl0 rfl rfl) rfl rfl rfl (by decide +kernel) hC ?_
  show F S D1 18 [some (.ref l0), some (.int l1), none] [.int v1]
  refine ev_blk hX lkok_RX11 [(.istore_n 2, 1, 0, 0, 0), (.iload_n 2, 1, 0, 0, 0), (.iconst (-1), 1, 0, 0, (-1))] (by decide +kernel) (g := true) (lv' := [some (.ref l0), some (.int l1), some (.int v1)]) (st' := [.int (-1 : Int32), .int v1]) (D' := D1) (pc' := 21) rfl (rfl) rfl ?_
  refine ev_ic_ne hX (off := 5) 26 (by decide +kernel) (by decide) (fun h2 => ?_) (fun h2 => ?_)
  · have hf := ev_nf h2 hf
    refine ev_blk hX lkok_RX11 [(.aload_n 0, 1, 0, 0, 0), (.getfield 10, 3, 11, 0, 0), (.getfield 40, 3, 10, 2, 0), (.iload_n 1, 1, 0, 0, 0), (.aload_n 0, 1, 0, 0, 0), (.getfield 26, 3, 11, 2, 0), (.getfield 165, 3, 4, 0, 0)] (by decide +kernel) (g := (sK S l0 == 14) && ((sK S ((sE S) l0 0) == 13) && ((sK S l0 == 14) && ((sK S ((sE S) l0 2) == 7) && (true))))) (lv' := [some (.ref l0), some (.int l1), some (.int v1)]) (st' := [.ref ((sE S) ((sE S) l0 2) 0), .int l1, .ref ((sE S) ((sE S) l0 0) 2)]) (D' := D1) (pc' := 41) rfl (ev_gk hl0 (ev_gk (ev_tyk hT hl0 rfl rfl) (ev_gk hl0 (ev_gk (ev_tyk hT hl0 rfl rfl) (rfl))))) rfl ?_
    obtain ⟨v3, D3, hc3, hf⟩ := ev_bd_s hf
    refine ev_callV hX YX7_becomeOne ml_RX11_168 (mX7_becomeOne hT (ev_tyk hT (ev_tyk hT hl0 rfl rfl) rfl rfl) (ev_tyk hT (ev_tyk hT hl0 rfl rfl) rfl rfl) hc3) (vs := [.int l1, .ref ((sE S) ((sE S) l0 2) 0)]) (st := []) (by decide) 7 (ev_tyk hT (ev_tyk hT hl0 rfl rfl) rfl rfl) rfl rfl rfl (by decide +kernel) hC ?_
    show F S D3 44 [some (.ref l0), some (.int l1), some (.int v1)] []
    refine ev_blk hX lkok_RX11 [(.iload_n 1, 1, 0, 0, 0), (.iconst 2, 1, 0, 0, 2)] (by decide +kernel) (g := true) (lv' := [some (.ref l0), some (.int l1), some (.int v1)]) (st' := [.int (2 : Int32), .int l1]) (D' := D3) (pc' := 46) rfl (rfl) rfl ?_
    refine ev_ic_ne hX (off := 10) 56 (by decide +kernel) (by decide) (fun h4 => ?_) (fun h4 => ?_)
    · have hf := ev_nf h4 hf
      refine ev_blk hX lkok_RX11 [(.iload_n 2, 1, 0, 0, 0)] (by decide +kernel) (g := true) (lv' := [some (.ref l0), some (.int l1), some (.int v1)]) (st' := [.int v1]) (D' := D3) (pc' := 57) rfl (rfl) rfl ?_
      exact ev_iret hR ev_sm.rf (Option.some.inj hf) hC (by decide +kernel)
    · have hf := ev_it h4 hf
      refine ev_blk hX lkok_RX11 [(.aload_n 0, 1, 0, 0, 0), (.getfield 19, 3, 11, 1, 0)] (by decide +kernel) (g := (sK S l0 == 14) && (true)) (lv' := [some (.ref l0), some (.int l1), some (.int v1)]) (st' := [.ref ((sE S) l0 1)]) (D' := D3) (pc' := 53) rfl (ev_gk hl0 (rfl)) rfl ?_
      obtain ⟨v5, D5, hc5, hf⟩ := ev_bd_s hf
      refine ev_callV hX YX2_forget ml_RX11_82 (mX2_forget hT (ev_tyk hT hl0 rfl rfl) hc5) (vs := []) (st := []) (by decide) 2 (ev_tyk hT hl0 rfl rfl) rfl rfl rfl (by decide +kernel) hC ?_
      show F S D5 56 [some (.ref l0), some (.int l1), some (.int v1)] []
      refine ev_blk hX lkok_RX11 [(.iload_n 2, 1, 0, 0, 0)] (by decide +kernel) (g := true) (lv' := [some (.ref l0), some (.int l1), some (.int v1)]) (st' := [.int v1]) (D' := D5) (pc' := 57) rfl (rfl) rfl ?_
      exact ev_iret hR ev_sm.rf (Option.some.inj hf) hC (by decide +kernel)
  · have hf := ev_it h2 hf
    refine ev_blk hX lkok_RX11 [(.iconst (-1), 1, 0, 0, (-1))] (by decide +kernel) (g := true) (lv' := [some (.ref l0), some (.int l1), some (.int v1)]) (st' := [.int (-1 : Int32)]) (D' := D1) (pc' := 25) rfl (rfl) rfl ?_
    exact ev_iret hR ev_sm.rf (Option.some.inj hf) hC (by decide +kernel)
theorem mX11_text {S : ev_S} {fu : Nat} {r : Int32 × ev_D} (hT : ev_Ty S) {l0 : Nat} {l1 : Int32} {D : ev_D} (hl0 : sK S l0 = 14) (hf : fX11_text (sL S) (sE S) fu l0 l1 D = some r) : ev_M 27 0 0 yX11_text cX11_text 3 (some .int) [.ref l0, .int l1] S D S r :=
  ev_met (ini := false) (plainFor_of_name (by decide)) (fun h => by cases h) rfl (Nat.le_of_ble_eq_true rfl) (fun F hR => tX11_text (S := ev_z S) hR hT ⟨Nat.le_refl 0, Nat.le_refl 0⟩ hl0 hf)
