/-! ===== new cells, references written, arrays copied ===== -/
def ev_nO (c n : Nat) (S : ev_S) : ev_S := (sZ S + 1, va_up (sK S) (sZ S + 1) (c + 3), sL S, va_up (sE S) (sZ S + 1) (fun _ => 0), sC S + 1, sA S + n)
def ev_nA (n : Nat) (S : ev_S) : ev_S := (sZ S + 1, va_up (sK S) (sZ S + 1) 1, va_up (sL S) (sZ S + 1) n, sE S, sC S + 1, sA S + n)
def ev_nT (n : Nat) (S : ev_S) : ev_S := (sZ S + 1, va_up (sK S) (sZ S + 1) 2, va_up (sL S) (sZ S + 1) n, va_up (sE S) (sZ S + 1) (fun _ => 0), sC S + 1, sA S + n)
def ev_0 (D : ev_D) (k : Nat) : ev_D := va_up D k (fun _ => 0)
def ev_sE (S : ev_S) (q i v : Nat) : ev_S := (sZ S, sK S, sL S, va_up (sE S) q (va_up (sE S q) i v), sC S, sA S)
def ev_cpD (D : ev_D) (q1 q2 sp dp n : Nat) : ev_D := va_up D q2 (va_cpy (D q1) (D q2) sp dp n)
def ev_cpg (q1 q2 n1 n2 : Nat) (sp dp n : Int32) : Bool := !(decide (sp < 0)) && (!(decide (dp < 0)) && (!(decide (n < 0)) && (decide (sp.toNatClampNeg + n.toNatClampNeg ≤ n1) && (decide (dp.toNatClampNeg + n.toNatClampNeg ≤ n2) && !(decide (q1 = q2))))))
def ev_okt (ty : FieldType) : Bool := match ty with
  | .int => true
  | .boolean => true
  | .object _ => true
  | .array _ => true
  | _ => false
theorem ev_ft_ok (c i : Nat) : ev_okt (ev_ft c i) = true := by
  unfold ev_ft
  split <;> first
    | (unfold tyX0; split <;> rfl) | (unfold tyX1; split <;> rfl) | (unfold tyX2; split <;> rfl) | (unfold tyX3; split <;> rfl) | (unfold tyX4; split <;> rfl) | (unfold tyX5; split <;> rfl) | (unfold tyX6; split <;> rfl)
    | (unfold tyX7; split <;> rfl) | (unfold tyX8; split <;> rfl) | (unfold tyX9; split <;> rfl) | (unfold tyX10; split <;> rfl) | (unfold tyX11; split <;> rfl) | (unfold tyX12; split <;> rfl)
theorem ev_default (b : Nat) (S : ev_S) (D : ev_D) (c k i : Nat) (hE : sE S k = fun _ => 0) (hD : D k = fun _ => 0) : defaultValue (ev_ft c i) = ev_fv b S D c k i := by
  have h := ev_ft_ok c i
  simp only [ev_fv, hE, hD]
  cases hty : ev_ft c i <;> rw [hty] at h <;> first | rfl | (cases h)
theorem ev_W_new {G : ev_G} {S S' : ev_S} {D D' : ev_D} {H H1 : Heap} (hW : ev_W G S D H) (hz : H1.size = H.size + 1) (ho : ∀ q, q < H.size → H1[q]? = H[q]?) (hZ : sZ S' = sZ S + 1) (hk : ∀ k, k ≠ sZ S + 1 → sK S' k = sK S k ∧ sL S' k = sL S k ∧ sE S' k = sE S k ∧ D' k = D k) (hn : ev_at G S' D' (sZ S + 1) H1) : ev_W G S' D' H1 := by
  have hs := hW.1
  refine ⟨by rw [hz, hZ, hs]; omega, fun k hk0 => ?_, fun q hq => (ho q (by omega)).trans (hW.2.2 q hq)⟩
  by_cases hkz : k = sZ S + 1
  · subst hkz
    exact ⟨by omega, by omega, hn⟩
  · obtain ⟨e1, e2, e3, e4⟩ := hk k hkz
    obtain ⟨h1, h2, h3⟩ := hW.2.1 k (by rw [← e1]; exact hk0)
    exact ⟨h1, by omega, ev_at_kept h3 (ho _ (by omega)) e1 e2 e3 e4⟩
section Alloc
variable {own : String} {cc : ByteArray} {nL d N NS : Nat} {ini : Bool} {S : ev_S} {F : ev_Fr} {D : ev_D} {pc : Nat} {lv : ev_V} {st : List Value}
theorem ev_new (hX : ev_X own cc nL d N NS ini F) {idx c : Nat} {rc : vw_C} (hr : vwCl[c]? = some rc) (hcl : Cond.classLink own idx rc.1 ∈ lw_tbl) (hi : Cond.instantiable rc.1 rc.2.2 ∈ lw_tbl) (hin : Cond.initialized rc.1 ∈ lw_tbl) (hdg : decode cc pc = .ok (.new idx, 3)) (hN : sC S + 1 ≤ N ∧ sA S + rc.2.2 ≤ NS)
    (kk : F (ev_nO c rc.2.2 S) (ev_0 D (sZ S + 1)) (pc + 3) lv (.ref (sZ S + 1) :: st)) : F S D pc lv st := by
  obtain ⟨p, l, e, R, s, m, args, below, meth, cd, G, Q, ⟨hx, hb, hml, hown, hWm, hT, ⟨hr1, hr2, hr3, hr4⟩, -, hsz⟩, rfl⟩ := hX
  intro H locs ls hW hS hL
  obtain ⟨-, cu, ct, cn⟩ := ev_cls_of hr
  have hKn := (ev_K hT hWm).1 c _ hr
  have hs := hW.1
  refine W.newcK hx hb hown (ev_word hT hWm hcl rfl args) (ev_word hT hWm hi rfl args) (ev_word hT hWm hin rfl args) rfl hdg (by rw [hr3]; exact hN.1) (by rw [hr4]; exact hN.2) hKn.2.1 rfl fun H1 kC hkC e1 z1 o1 => ?_
  have hq0 : ev_v (gB G) (.ref (sZ S + 1)) = .ref H.size := by
    simp only [ev_v, ev_rf]; rw [if_neg (by omega), hs]; congr 1
  have hk := kk H1 locs ls (ev_W_new hW z1 o1 rfl (fun k hk => ⟨va_up_ne _ _ hk, rfl, va_up_ne _ _ hk, va_up_ne _ _ hk⟩) ⟨fun z => ?_, fun z => ?_, fun _ => ⟨rc, ?_, ?_⟩⟩) ⟨Nat.le_trans hS.1 (by omega), fun x h1 h2 => (o1 x (Nat.lt_of_lt_of_le h1 hS.1)).trans (hS.2.1 x h1 h2), hS.2.2⟩ hL
  · rw [List.map_cons, hq0] at hk
    exact hk
  · simp only [ev_nO, sK, va_up_self] at z; omega
  · simp only [ev_nO, sK, va_up_self] at z; omega
  · simp only [ev_nO, sK, va_up_self, Nat.add_sub_cancel]; exact hr
  · have hb1 := u_born (ev_ft c) (ev_uw cu hT hWm args) (fun _ h => h) hKn hkC e1 ct
    simp only [ev_nO, sK, va_up_self, Nat.add_sub_cancel]
    rw [show gB G + (sZ S + 1) = H.size by omega]
    exact hb1.to fun i _ => ev_default _ _ _ c _ i (by simp only [sE, va_up_self]) (by simp only [ev_0, va_up_self])
theorem ev_newarr (hX : ev_X own cc nL d N NS ini F) {n : Int32} (hA : Cond.arrayClass .int ∈ lw_tbl) (hn : ¬ n < 0) (hb0 : n.toNatClampNeg ≤ 100000) (hdg : decode cc pc = .ok (.newarray .int, 2)) (hN : sC S + 1 ≤ N ∧ sA S + n.toNatClampNeg ≤ NS)
    (kk : F (ev_nA n.toNatClampNeg S) (ev_0 D (sZ S + 1)) (pc + 2) lv (.ref (sZ S + 1) :: st)) : F S D pc lv (.int n :: st) := by
  obtain ⟨p, l, e, R, s, m, args, below, meth, cd, G, Q, ⟨hx, hb, hml, hown, hWm, hT, ⟨hr1, hr2, hr3, hr4⟩, -, hsz⟩, rfl⟩ := hX
  intro H locs ls hW hS hL
  have hs := hW.1
  refine va_newaK (atype := .int) hx hb (ev_word hT hWm hA rfl args) rfl hdg rfl hn rfl (by show n.toNatClampNeg * 4 ≤ 536870912; omega) (by rw [hr3]; exact hN.1) (by rw [hr4]; exact hN.2) rfl fun H1 cA e1 z1 o1 _ hNm => ?_
  have hcA : cA = gI G := by
    have h1 : s.vm.findClass "[I" = some (gI G) := va_nm_int ((ev_K hT hWm).2 0 _ rfl).2
    exact Option.some.inj (hNm.symm.trans h1)
  subst hcA
  have hq0 : ev_v (gB G) (.ref (sZ S + 1)) = .ref H.size := by
    simp only [ev_v, ev_rf]; rw [if_neg (by omega), hs]; congr 1
  have hk := kk H1 locs ls (ev_W_new hW z1 o1 rfl (fun k hk => ⟨va_up_ne _ _ hk, va_up_ne _ _ hk, rfl, va_up_ne _ _ hk⟩) ⟨fun _ => ?_, fun z => ?_, fun z => ?_⟩) ⟨Nat.le_trans hS.1 (by omega), fun x h1 h2 => (o1 x (Nat.lt_of_lt_of_le h1 hS.1)).trans (hS.2.1 x h1 h2), hS.2.2⟩ hL
  · rw [List.map_cons, hq0] at hk
    exact hk
  · rw [show gB G + (sZ S + 1) = H.size by omega, e1]
    simp only [ev_nA, sL, va_up_self, ev_0]
    rfl
  · simp only [ev_nA, sK, va_up_self] at z; omega
  · simp only [ev_nA, sK, va_up_self] at z; omega
theorem ev_newtow (hX : ev_X own cc nL d N NS ini F) {n : Int32} {idx : Nat} (hcl : Cond.classLink own idx "DeafBells$Tower" ∈ lw_tbl) (hov : Cond.arrayOver (.object "DeafBells$Tower") ∈ lw_tbl) (hn : ¬ n < 0) (hb0 : n.toNatClampNeg ≤ 100000) (hdg : decode cc pc = .ok (.anewarray idx, 3)) (hN : sC S + 1 ≤ N ∧ sA S + n.toNatClampNeg ≤ NS)
    (kk : F (ev_nT n.toNatClampNeg S) (ev_0 D (sZ S + 1)) (pc + 3) lv (.ref (sZ S + 1) :: st)) : F S D pc lv (.int n :: st) := by
  obtain ⟨p, l, e, R, s, m, args, below, meth, cd, G, Q, ⟨hx, hb, hml, hown, hWm, hT, ⟨hr1, hr2, hr3, hr4⟩, -, hsz⟩, rfl⟩ := hX
  intro H locs ls hW hS hL
  have hs := hW.1
  have hAO : va_AO "DeafBells$Tower" s := by
    obtain ⟨-, ⟨a, hh, -⟩, -⟩ := hT
    exact va_AO.moved hWm.alike (va_AO.of (hh _ hov))
  refine W.anew hx hb hown (ev_word hT hWm hcl rfl args) (va_AO.use hAO) rfl hdg rfl hn (by omega) (by rw [hr3]; exact hN.1) (by rw [hr4]; exact hN.2) fun cA kA comp f1 f2 f3 f4 => ?_
  have hcA : cA = gT G := by
    obtain ⟨kA', comp', k1, k2, k3, k4⟩ := ((ev_K hT hWm).2 1 _ rfl).2
    exact Option.some.inj (f1.symm.trans k4)
  subst hcA
  generalize hH1 : H.push ({ cls := gT G, slots := Array.replicate n.toNatClampNeg .null, vm := .none } : Cell) = H1
  have z1 : H1.size = H.size + 1 := by rw [← hH1, Array.size_push]
  have e1 : H1[H.size]? = some (arrV (gT G) n.toNatClampNeg (fun _ => .null)) := by rw [← hH1, Array.getElem?_push_size, ← arrV_new]
  have o1 : ∀ q, q < H.size → H1[q]? = H[q]? := fun q hq => by rw [← hH1, Array.getElem?_push, if_neg (Nat.ne_of_lt hq)]
  have hq0 : ev_v (gB G) (.ref (sZ S + 1)) = .ref H.size := by
    simp only [ev_v, ev_rf]; rw [if_neg (by omega), hs]; congr 1
  have hk := kk H1 locs ls (ev_W_new hW z1 o1 rfl (fun k hk => ⟨va_up_ne _ _ hk, va_up_ne _ _ hk, va_up_ne _ _ hk, va_up_ne _ _ hk⟩) ⟨fun z => ?_, fun _ => ?_, fun z => ?_⟩) ⟨Nat.le_trans hS.1 (by omega), fun x h1 h2 => (o1 x (Nat.lt_of_lt_of_le h1 hS.1)).trans (hS.2.1 x h1 h2), hS.2.2⟩ hL
  · rw [List.map_cons, hq0] at hk
    exact hk
  · simp only [ev_nT, sK, va_up_self] at z; omega
  · rw [show gB G + (sZ S + 1) = H.size by omega, e1]
    simp only [ev_nT, sL, sE, va_up_self, ev_rf]
    rfl
  · simp only [ev_nT, sK, va_up_self] at z; omega
theorem ev_objinit (hX : ev_X own cc nL d N NS ini F) {idx q : Nat} (hl : Cond.methodLink own idx Lib.objectInit ∈ lw_tbl) (h1 : Cond.instanceMethod Lib.objectInit ∈ lw_tbl) (h2 : Cond.code Lib.objectInit ⟨#[0xb1]⟩ 1 none ∈ lw_tbl) (hq : ¬ q = 0) (hd : 1 ≤ d) (hst : ev_cat st = true) (hdg : decode cc pc = .ok (.invokespecial idx, 3))
    (kk : F S D (pc + 3) lv st) : F S D pc lv (.ref q :: st) := by
  obtain ⟨p, l, e, R, s, m, args, below, meth, cd, G, Q, ⟨hx, hb, hml, hown, hWm, hT, ⟨hr1, hr2, hr3, hr4⟩, -, hsz⟩, rfl⟩ := hX
  intro H locs ls hW hS hL
  have hq0 : ev_v (gB G) (.ref q) = .ref (gB G + q) := by
    simp only [ev_v, ev_rf]; rw [if_neg hq]
  rw [List.map_cons, hq0]
  have hc := lv_room (m := m) (pc := pc) (ls := ls) (rest := []) (ev_cat_le hst (gB G))
  exact W.objInit hx hb hown (ev_word hT hWm hl rfl args) (ev_word hT hWm h1 rfl args) (ev_word hT hWm h2 rfl args) rfl (by rw [hml]; exact hL.1) rfl hdg (by omega) (by have hc2 : 2 * (F0 m pc ls (.ref (gB G + q) :: st.map (ev_v (gB G)))).monitorRoom + ((st.map (ev_v (gB G))).map fun v => v.category).sum ≤ 8 := hc; omega) (kk H locs ls hW hS hL)
theorem ev_aald (hX : ev_X own cc nL d N NS ini F) {q : Nat} {j : Int32} (hq : sK S q = 2) (hin : ev_in j (sL S q) = true) (hdg : decode cc pc = .ok (.aaload, 1))
    (kk : F S D (pc + 1) lv (.ref (sE S q j.toNatClampNeg) :: st)) : F S D pc lv (.int j :: .ref q :: st) := by
  obtain ⟨p, l, e, R, s, m, args, below, meth, cd, G, Q, ⟨hx, hb, hml, hown, hWm, hT, ⟨hr1, hr2, hr3, hr4⟩, -, hsz⟩, rfl⟩ := hX
  intro H locs ls hW hS hL
  obtain ⟨h1, h2, h3⟩ := hW.2.1 q (by omega)
  have hc := h3.2.1 hq
  have hv := ev_in_vp hin
  have hlt : j.toNatClampNeg < sL S q := Nat.not_le.mp fun q => hv (Or.inr q)
  have hq0 : ev_v (gB G) (.ref q) = .ref (gB G + q) := by
    simp only [ev_v, ev_rf]; rw [if_neg (by omega)]
  rw [List.map_cons, List.map_cons, hq0]
  exact W.aald (v := ev_rf (gB G) (sE S q j.toNatClampNeg)) (ty := .object "DeafBells$Tower") hx hb hc (((ev_K hT hWm).2 1 _ rfl).1 _ (fun j => ev_rf (gB G) (sE S q j))) rfl (fun q => by cases q) (by show ¬ (j < 0 ∨ (arrV _ _ _).slots.size ≤ _); rw [arrV_size]; exact hv) (by show (arrV _ _ _).slots[_]? = _; rw [arrV_read _ _ hlt]) rfl rfl hdg (kk H locs ls hW hS hL)
end Alloc
