/-! ===== the picture: numbered cells behind the start's heap ===== -/
abbrev ev_D : Type := Nat → Nat → Int32
/-- how many cells; the kind of each (1: ints, 2: towers, 3 + c: an object of class c, 0: none); lengths; references (0: null); new cells and slots so far -/
abbrev ev_S : Type := Nat × (Nat → Nat) × (Nat → Nat) × (Nat → Nat → Nat) × Nat × Nat
abbrev sZ (S : ev_S) : Nat := S.1
abbrev sK (S : ev_S) : Nat → Nat := S.2.1
abbrev sL (S : ev_S) : Nat → Nat := S.2.2.1
abbrev sE (S : ev_S) : Nat → Nat → Nat := S.2.2.2.1
abbrev sC (S : ev_S) : Nat := S.2.2.2.2.1
abbrev sA (S : ev_S) : Nat := S.2.2.2.2.2
def ev_rf (b q : Nat) : Value := if q = 0 then .null else .ref (b + q)
def ev_v (b : Nat) (v : Value) : Value := match v with
  | .ref q => ev_rf b q
  | w => w
def ev_isr (ty : FieldType) : Bool := match ty with
  | .int => false
  | .boolean => false
  | _ => true
def ev_ft (c : Nat) : Nat → FieldType := match c with
  | 0 => tyX0
  | 1 => tyX1
  | 2 => tyX2
  | 3 => tyX3
  | 4 => tyX4
  | 5 => tyX5
  | 6 => tyX6
  | 7 => tyX7
  | 8 => tyX8
  | 9 => tyX9
  | 10 => tyX10
  | 11 => tyX11
  | _ => tyX12
def ev_fv (b : Nat) (S : ev_S) (D : ev_D) (c k i : Nat) : Value := match ev_isr (ev_ft c i) with
  | true => ev_rf b (sE S k i)
  | false => .int (D k i)
/-- the tables' numbers, the classes of the arrays, the place ahead of cell 1, the start -/
abbrev ev_G : Type := va_G × ClassId × ClassId × Nat × State
abbrev gD (G : ev_G) : va_G := G.1
abbrev gI (G : ev_G) : ClassId := G.2.1
abbrev gT (G : ev_G) : ClassId := G.2.2.1
abbrev gB (G : ev_G) : Nat := G.2.2.2.1
abbrev gS (G : ev_G) : State := G.2.2.2.2
def ev_at (G : ev_G) (S : ev_S) (D : ev_D) (k : Nat) (H : Heap) : Prop :=
  (sK S k = 1 → H[gB G + k]? = some (arrV (gI G) (sL S k) (fun j => .int (D k j)))) ∧
  (sK S k = 2 → H[gB G + k]? = some (arrV (gT G) (sL S k) (fun j => ev_rf (gB G) (sE S k j)))) ∧
  (3 ≤ sK S k → ∃ r : vw_C, vwCl[sK S k - 3]? = some r ∧ t_OB (gB G + k) ((gD G).1 (sK S k - 3)) r.2.2 ((gD G).2 (sK S k - 3)) H (ev_fv (gB G) S D (sK S k - 3) k))
def ev_W (G : ev_G) (S : ev_S) (D : ev_D) (H : Heap) : Prop :=
  H.size = gB G + sZ S + 1 ∧ (∀ k, sK S k ≠ 0 → 1 ≤ k ∧ k ≤ sZ S ∧ ev_at G S D k H) ∧ ∀ q, q ≤ gB G → H[q]? = (gS G).heap[q]?
/-- what the start's tables say -/
def ev_T (G : ev_G) : Prop := va_K (gD G) vwCl [(gI G, .int), (gT G, .object "DeafBells$Tower")] (gS G) ∧ (∃ a, (∀ w ∈ lw_tbl, w.before a (gS G) = true) ∧ (Jvm.Cond.and given_1 narrow_1).before a (gS G) = true) ∧ (gS G).heap.size = gB G + 1
def ev_up (D : ev_D) (k i : Nat) (v : Int32) : ev_D := fun q => if q = k then upd (D k) i v else D q
theorem ev_up_self (D : ev_D) (k i : Nat) (v : Int32) : ev_up D k i v k = upd (D k) i v := by simp [ev_up]
theorem ev_up_ne (D : ev_D) {k q : Nat} (i : Nat) (v : Int32) (h : q ≠ k) : ev_up D k i v q = D q := by simp [ev_up, h]
/-- the locals that are known -/
def ev_L (b : Nat) (ls : Array Slot) (nL : Nat) (lv : List (Option Value)) : Prop := ls.size = nL ∧ lv_wf ls ∧ ∀ (i : Nat) (v : Value), lv[i]? = some (some v) → ls[i]? = some (Slot.val (ev_v b v)) ∧ (ev_v b v).category = 1
theorem ev_cat_ref (b q : Nat) : (ev_v b (.ref q)).category = 1 := by
  simp only [ev_v, ev_rf]; split <;> rfl
/-- one word of the tables, at a later state -/
theorem ev_word {G : ev_G} (hT : ev_T G) {s : State} (hW : (gS G).WarmedH s.vm) {w : Cond} (hw : w ∈ lw_tbl) (hg : goodWord w = true) (args : Array Value) : w.before args s = true := by
  obtain ⟨-, ⟨a, h, -⟩, -⟩ := hT
  exact word_at hW (good_of_word hg) (h w hw)
theorem ev_nestM {G : ev_G} (hT : ev_T G) {s : State} (hW : (gS G).WarmedH s.vm) {o h : String} {i : Nat} {x : MethodName} (hw : Cond.methodLinkNest o i x h ∈ lw_tbl) : va_Nw (.methodLinkNest o i x h) s := by
  obtain ⟨-, ⟨a, hh, -⟩, -⟩ := hT
  exact va_Nw.warmM hW (va_Nw.of rfl (hh _ hw))
theorem ev_K {G : ev_G} (hT : ev_T G) {s : State} (hW : (gS G).WarmedH s.vm) : va_K (gD G) vwCl [(gI G, .int), (gT G, .object "DeafBells$Tower")] s := va_K.moved hW.alike hT.1
/-- the words of a class's fields -/
theorem ev_uw {C : String} {T : u_T} {N : Nat} (h : GoodIn lw_tbl (u_ws C T N)) {G : ev_G} (hT : ev_T G) {s : State} (hW : (gS G).WarmedH s.vm) (args : Array Value) : ∀ w ∈ u_ws C T N, w.before args s = true := by
  intro w hw
  obtain ⟨-, ⟨a, hh, -⟩, -⟩ := hT
  exact word_at hW (h w hw).2 (hh w (h w hw).1)
/-- a class of the list, with all that its rows need -/
def ev_cls (c : Nat) (r : vw_C) : Prop := vwCl[c]? = some r ∧ GoodIn lw_tbl (u_ws r.1 r.2.1 r.2.2) ∧ (∀ k, k < r.2.2 → parseFieldDescriptor (r.2.1 k).2.2.1 = some (ev_ft c k)) ∧ (∀ a, a < r.2.2 → ∀ b, b < r.2.2 → a ≠ b → (r.2.1 a).2.1 ≠ (r.2.1 b).2.1)
set_option maxRecDepth 100000 in
theorem ev_u0 : GoodIn lw_tbl (u_ws RX0 TX0 3) := goodIn_r _ [271, 273, 275] (by decide +kernel) (by decide +kernel)
theorem ev_c0 : ev_cls 0 (RX0, TX0, 3) := ⟨rfl, ev_u0, tyX0_ok, nmX0⟩
set_option maxRecDepth 100000 in
theorem ev_u1 : GoodIn lw_tbl (u_ws RX1 TX1 8) := goodIn_r _ [299, 301, 303, 305, 307, 309, 311, 313] (by decide +kernel) (by decide +kernel)
theorem ev_c1 : ev_cls 1 (RX1, TX1, 8) := ⟨rfl, ev_u1, tyX1_ok, nmX1⟩
set_option maxRecDepth 100000 in
theorem ev_u2 : GoodIn lw_tbl (u_ws RX2 TX2 4) := goodIn_r _ [435, 437, 439, 441] (by decide +kernel) (by decide +kernel)
theorem ev_c2 : ev_cls 2 (RX2, TX2, 4) := ⟨rfl, ev_u2, tyX2_ok, nmX2⟩
set_option maxRecDepth 100000 in
theorem ev_u3 : GoodIn lw_tbl (u_ws RX3 TX3 10) := goodIn_r _ [536, 538, 540, 542, 544, 546, 548, 550, 552, 554] (by decide +kernel) (by decide +kernel)
theorem ev_c3 : ev_cls 3 (RX3, TX3, 10) := ⟨rfl, ev_u3, tyX3_ok, nmX3⟩
set_option maxRecDepth 100000 in
theorem ev_u4 : GoodIn lw_tbl (u_ws RX4 TX4 12) := goodIn_r _ [468, 470, 472, 474, 476, 478, 480, 482, 484, 486, 488, 490] (by decide +kernel) (by decide +kernel)
theorem ev_c4 : ev_cls 4 (RX4, TX4, 12) := ⟨rfl, ev_u4, tyX4_ok, nmX4⟩
set_option maxRecDepth 100000 in
theorem ev_u5 : GoodIn lw_tbl (u_ws RX5 TX5 4) := goodIn_r _ [504, 506, 508, 510] (by decide +kernel) (by decide +kernel)
theorem ev_c5 : ev_cls 5 (RX5, TX5, 4) := ⟨rfl, ev_u5, tyX5_ok, nmX5⟩
set_option maxRecDepth 100000 in
theorem ev_u6 : GoodIn lw_tbl (u_ws RX6 TX6 3) := goodIn_r _ [330, 332, 334] (by decide +kernel) (by decide +kernel)
theorem ev_c6 : ev_cls 6 (RX6, TX6, 3) := ⟨rfl, ev_u6, tyX6_ok, nmX6⟩
set_option maxRecDepth 100000 in
theorem ev_u7 : GoodIn lw_tbl (u_ws RX7 TX7 4) := goodIn_r _ [352, 354, 356, 358] (by decide +kernel) (by decide +kernel)
theorem ev_c7 : ev_cls 7 (RX7, TX7, 4) := ⟨rfl, ev_u7, tyX7_ok, nmX7⟩
set_option maxRecDepth 100000 in
theorem ev_u8 : GoodIn lw_tbl (u_ws RX8 TX8 7) := goodIn_r _ [389, 391, 393, 395, 397, 399, 401] (by decide +kernel) (by decide +kernel)
theorem ev_c8 : ev_cls 8 (RX8, TX8, 7) := ⟨rfl, ev_u8, tyX8_ok, nmX8⟩
set_option maxRecDepth 100000 in
theorem ev_u9 : GoodIn lw_tbl (u_ws RX9 TX9 14) := goodIn_r _ [227, 229, 231, 233, 235, 237, 239, 241, 243, 245, 247, 249, 251, 253] (by decide +kernel) (by decide +kernel)
theorem ev_c9 : ev_cls 9 (RX9, TX9, 14) := ⟨rfl, ev_u9, tyX9_ok, nmX9⟩
set_option maxRecDepth 100000 in
theorem ev_u10 : GoodIn lw_tbl (u_ws RX10 TX10 4) := goodIn_r _ [412, 414, 416, 418] (by decide +kernel) (by decide +kernel)
theorem ev_c10 : ev_cls 10 (RX10, TX10, 4) := ⟨rfl, ev_u10, tyX10_ok, nmX10⟩
set_option maxRecDepth 100000 in
theorem ev_u11 : GoodIn lw_tbl (u_ws RX11 TX11 7) := goodIn_r _ [564, 566, 568, 570, 572, 574, 576] (by decide +kernel) (by decide +kernel)
theorem ev_c11 : ev_cls 11 (RX11, TX11, 7) := ⟨rfl, ev_u11, tyX11_ok, nmX11⟩
set_option maxRecDepth 100000 in
theorem ev_u12 : GoodIn lw_tbl (u_ws RX12 TX12 67) := goodIn_r _ [1438, 1440, 1442, 1444, 1446, 1448, 1450, 1452, 1454, 1456, 1458, 1460, 1462, 1464, 1466, 1468, 1470, 1472, 1474, 1476, 1478, 1480, 1482, 1484, 1486, 1488, 1490, 1492, 1494, 1496, 1498, 1500, 1502, 1504, 1506, 1508, 1510, 1512, 1514, 1516, 1518, 1520, 1522, 1524, 1526, 1528, 1530, 1532, 1534, 1536, 1538, 1540, 1542, 1544, 1546, 1548, 1550, 1552, 1554, 1556, 1558, 1560, 1562, 1564, 1566, 1568, 1570] (by decide +kernel) (by decide +kernel)
theorem ev_c12 : ev_cls 12 (RX12, TX12, 67) := ⟨rfl, ev_u12, tyX12_ok, nmX12⟩
theorem ev_cls_of {c : Nat} {r : vw_C} (h : vwCl[c]? = some r) : ev_cls c r := by
  have hc : c < 13 := (List.getElem?_eq_some_iff.mp h).1
  match c, hc, h with
  | 0, _, h => cases h; exact ev_c0
  | 1, _, h => cases h; exact ev_c1
  | 2, _, h => cases h; exact ev_c2
  | 3, _, h => cases h; exact ev_c3
  | 4, _, h => cases h; exact ev_c4
  | 5, _, h => cases h; exact ev_c5
  | 6, _, h => cases h; exact ev_c6
  | 7, _, h => cases h; exact ev_c7
  | 8, _, h => cases h; exact ev_c8
  | 9, _, h => cases h; exact ev_c9
  | 10, _, h => cases h; exact ev_c10
  | 11, _, h => cases h; exact ev_c11
  | 12, _, h => cases h; exact ev_c12
/-! ===== what is kept of the picture ===== -/
theorem ev_at_kept {G : ev_G} {S S' : ev_S} {D D' : ev_D} {k : Nat} {H H1 : Heap} (h : ev_at G S D k H) (hq : H1[gB G + k]? = H[gB G + k]?) (hK : sK S' k = sK S k) (hL : sL S' k = sL S k) (hE : sE S' k = sE S k) (hD : D' k = D k) : ev_at G S' D' k H1 := by
  obtain ⟨h1, h2, h3⟩ := h
  refine ⟨fun e => ?_, fun e => ?_, fun e => ?_⟩
  · rw [hq, hL, hD]; exact h1 (hK ▸ e)
  · rw [hq, hL, hE]; exact h2 (hK ▸ e)
  · obtain ⟨r, a1, a2⟩ := h3 (hK ▸ e)
    refine ⟨r, by rw [hK]; exact a1, ?_⟩
    rw [hK]
    refine (a2.kept hq).to fun i _ => ?_
    simp only [ev_fv, hE, hD]
theorem ev_W_set {G : ev_G} {S : ev_S} {D D' : ev_D} {H H1 : Heap} {q : Nat} (hW : ev_W G S D H) (hq : sK S q ≠ 0) (hz : H1.size = H.size) (ho : ∀ a, a ≠ gB G + q → H1[a]? = H[a]?) (hD : ∀ k, k ≠ q → D' k = D k) (hn : ev_at G S D' q H1) : ev_W G S D' H1 := by
  refine ⟨hz.trans hW.1, fun k hk => ?_, fun a ha => ?_⟩
  · obtain ⟨h1, h2, h3⟩ := hW.2.1 k hk
    refine ⟨h1, h2, ?_⟩
    by_cases hkq : k = q
    · subst hkq; exact hn
    · exact ev_at_kept h3 (ho _ (by omega)) rfl rfl rfl (hD k hkq)
  · exact (ho a (by have := (hW.2.1 q hq).1; omega)).trans (hW.2.2 a ha)
theorem ev_size {G : ev_G} {S : ev_S} {D : ev_D} {H : Heap} (hW : ev_W G S D H) : gB G < H.size := by have := hW.1; omega
def ev_in (j : Int32) (n : Nat) : Bool := !(decide (j < 0)) && decide (j.toNatClampNeg < n)
theorem ev_in_vp {j : Int32} {n : Nat} (h : ev_in j n = true) : vp_in j n := by
  simp only [ev_in, Bool.and_eq_true, Bool.not_eq_true', decide_eq_false_iff_not, decide_eq_true_eq] at h
  exact fun q => q.elim h.1 (fun z => absurd h.2 (Nat.not_lt.mpr z))
